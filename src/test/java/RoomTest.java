import java.lang.management.ManagementFactory;

/** All calls of a run live in one room: a new object is small, and its calls make nothing. */
public final class RoomTest {
    private static final int BYTES_FOR_AN_OBJECT = 40_000;
    private static final int BYTES_FOR_ALL_CALLS = 1_000;

    private static long sum = 0;

    public static void main(String[] args) {
        Check check = new Check("RoomTest");
        com.sun.management.ThreadMXBean meter =
                (com.sun.management.ThreadMXBean) ManagementFactory.getThreadMXBean();
        callAll(Spaces.with(Spaces.KLEIN));
        long start = meter.getCurrentThreadAllocatedBytes();
        HoleCounter x = new HoleCounter();
        long made = meter.getCurrentThreadAllocatedBytes();
        Spaces.addAll(x, 0, Spaces.KLEIN);
        Spaces.addAll(x, 1, Spaces.KLEIN);
        for (int turn = 0; turn < 10; turn++) {
            callAll(x);
        }
        long used = meter.getCurrentThreadAllocatedBytes() - made;
        check.due("a new object takes " + (made - start), made - start < BYTES_FOR_AN_OBJECT, true);
        check.due("calls take " + used + " (their sum is " + sum + ")", used < BYTES_FOR_ALL_CALLS, true);
        check.finish();
    }

    private static void callAll(HoleCounter x) {
        for (int k = 0; k < 4; k++) {
            sum += x.count(0, k) + x.simplex(0, k, 0) + x.incidence(0, k, 0, 0) + x.betti(0, k) + x.torsion(0, k, 0);
            sum += x.bettiModulo(0, k, 2) + x.order(0, k) + x.rank(k);
        }
        sum += x.add(0, 7) + x.euler(0) + x.get(0, 7) + x.boundary(0, 3) + x.image(3) + x.products(0);
        sum += x.put(0, 3, 0) && x.map(0, 0) && x.simplicial() ? 1 : 0;
    }
}
