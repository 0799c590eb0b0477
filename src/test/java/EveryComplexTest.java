import java.util.ArrayList;
import java.util.Comparator;
import java.util.List;

/** Every complex on the vertices 3 to 7, of which there are 7579, against the oracle. */
public final class EveryComplexTest {
    private static final int FIRST = 3;
    private static final int ALL_OF_THEM = 7579;

    private static final Check CHECK = new Check("EveryComplexTest");
    private static final List<Integer> SETS = setsByDimension();

    private static int complexes = 0;

    public static void main(String[] args) {
        withMore(new ArrayList<>(), 0);
        CHECK.due("how many complexes there are", complexes, ALL_OF_THEM);
        CHECK.finish();
    }

    private static List<Integer> setsByDimension() {
        List<Integer> sets = new ArrayList<>();
        for (int set = 1; set < 32; set++) {
            if (Integer.bitCount(set) <= 4) {
                sets.add(set << FIRST);
            }
        }
        sets.sort(Comparator.comparingInt(Integer::bitCount));
        return sets;
    }

    /** Each set from a place on is left out or, if all its faces are in, taken in. */
    private static void withMore(List<Integer> taken, int place) {
        if (place == SETS.size()) {
            complexes++;
            ask(taken);
            return;
        }
        withMore(taken, place + 1);
        int set = SETS.get(place);
        if (hasSides(taken, set)) {
            taken.add(set);
            withMore(taken, place + 1);
            taken.remove(taken.size() - 1);
        }
    }

    private static boolean hasSides(List<Integer> taken, int set) {
        for (int v = 0; v < 8; v++) {
            int side = set & ~(1 << v);
            if (side != set && side != 0 && !taken.contains(side)) {
                return false;
            }
        }
        return true;
    }

    private static void ask(List<Integer> taken) {
        HoleCounter x = new HoleCounter();
        Oracle oracle = new Oracle();
        for (int set : taken) {
            both(x, oracle, taken, new Call("add", 0, set));
            both(x, oracle, taken, new Call("add", 1, set));
            both(x, oracle, taken, new Call("put", 0, set, set % 19 - 9));
        }
        both(x, oracle, taken, new Call("euler", 0));
        both(x, oracle, taken, new Call("products", 0));
        for (int k = 0; k < 4; k++) {
            both(x, oracle, taken, new Call("betti", 0, k));
            both(x, oracle, taken, new Call("torsion", 0, k, 0));
            both(x, oracle, taken, new Call("bettiModulo", 0, k, 2));
            both(x, oracle, taken, new Call("order", 0, k));
            both(x, oracle, taken, new Call("rank", k));
        }
        both(x, oracle, taken, new Call("map", FIRST, FIRST + 1));
        for (int k = 0; k < 4; k++) {
            both(x, oracle, taken, new Call("rank", k));
        }
        for (int set : taken) {
            both(x, oracle, taken, new Call("boundary", 0, set));
            both(x, oracle, taken, new Call("image", set));
        }
    }

    private static void both(HoleCounter x, Oracle oracle, List<Integer> taken, Call call) {
        long got = call.on(x);
        long want = call.on(oracle);
        CHECK.due(got == want ? "" : call + " with " + taken, got, want);
    }
}
