/** The examples of README.md, as they stand there, and what it says of the constants. */
public final class ReadmeTest {
    private static final Check CHECK = new Check("ReadmeTest");

    public static void main(String[] args) {
        holesAndChains();
        theMap();
        theConstants();
        CHECK.finish();
    }

    private static void holesAndChains() {
        HoleCounter x = new HoleCounter();
        for (int triangle : new int[] {7, 11, 21, 41, 49, 38, 26, 50, 28, 44}) {
            x.add(0, triangle);
        }
        CHECK.due("vertices", x.count(0, 0), 6);
        CHECK.due("edges", x.count(0, 1), 15);
        CHECK.due("triangles", x.count(0, 2), 10);
        CHECK.due("euler", x.euler(0), 1);
        CHECK.due("betti", x.betti(0, 1), 0);
        CHECK.due("torsion", x.torsion(0, 1, 0), 2);
        CHECK.due("betti modulo 2", x.bettiModulo(0, 1, 2), 1);
        CHECK.due("put 0, 1", x.put(0, 3, 1), true);
        CHECK.due("put 1, 4", x.put(0, 18, 1), true);
        CHECK.due("order before the line is closed", x.order(0, 1), HoleCounter.OPEN);
        CHECK.due("put 0, 4", x.put(0, 17, -1), true);
        CHECK.due("order of the line", x.order(0, 1), 2);
        CHECK.due("products", x.products(0), 1);
    }

    private static void theMap() {
        HoleCounter y = new HoleCounter();
        for (int edge : new int[] {3, 6, 12, 24, 48, 33}) {
            y.add(0, edge);
            CHECK.due("put", y.put(0, edge, edge == 33 ? -1 : 1), true);
        }
        for (int edge : new int[] {3, 6, 5}) {
            y.add(1, edge);
        }
        CHECK.due("rank before the map is simplicial", y.rank(1), HoleCounter.BROKEN);
        for (int v = 0; v < 6; v++) {
            CHECK.due("map", y.map(v, v % 3), true);
        }
        CHECK.due("simplicial", y.simplicial(), true);
        CHECK.due("image", y.image(3), 2);
        CHECK.due("rank", y.rank(1), 1);
    }

    private static void theConstants() {
        CHECK.due("BAD", HoleCounter.BAD, -1);
        CHECK.due("FULL", HoleCounter.FULL, -2);
        CHECK.due("OPEN", HoleCounter.OPEN, -3);
        CHECK.due("BROKEN", HoleCounter.BROKEN, -4);
    }
}
