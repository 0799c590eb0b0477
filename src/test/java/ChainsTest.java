/** Promises 11 to 14: put, get, boundary and order. */
public final class ChainsTest {
    private static final int[] NO_SIMPLEX = {0, -1, 8, 256, 263, 31, Integer.MIN_VALUE, Integer.MAX_VALUE};

    private static final Check CHECK = new Check("ChainsTest");

    public static void main(String[] args) {
        putAndGet();
        putRefusals();
        boundaries();
        boundaryRefusals();
        orderOfPoints();
        orderOfLoops();
        orderThree();
        orderOfSurfaces();
        orderOfSolids();
        orderRefusals();
        CHECK.finish();
    }

    private static void putAndGet() {
        HoleCounter x = Spaces.with(new int[] {15});
        x.add(1, 15);
        for (int set = 1; set < 16; set++) {
            CHECK.due("at first", x.get(0, set), 0);
            CHECK.due("put", x.put(0, set, set - 7), true);
        }
        for (int set = 1; set < 16; set++) {
            CHECK.due("get " + set, x.get(0, set), set - 7);
            CHECK.due("get in the other complex", x.get(1, set), 0);
        }
        CHECK.due("put -9", x.put(0, 15, -9), true);
        CHECK.due("get -9", x.get(0, 15), -9);
        CHECK.due("put 9", x.put(0, 15, 9), true);
        CHECK.due("get 9", x.get(0, 15), 9);
    }

    private static void putRefusals() {
        HoleCounter x = Spaces.with(new int[] {7});
        x.put(0, 7, 3);
        for (int c : Outside.COMPLEXES) {
            CHECK.due("put in complex " + c, x.put(c, 7, 1), false);
            CHECK.due("get in complex " + c, x.get(c, 7), 0);
        }
        for (int set : NO_SIMPLEX) {
            CHECK.due("put for " + set, x.put(0, set, 1), false);
            CHECK.due("get for " + set, x.get(0, set), 0);
        }
        for (int number : Outside.NUMBERS) {
            CHECK.due("put " + number, x.put(0, 7, number), false);
        }
        CHECK.due("refused: the number stays", x.get(0, 7), 3);
        x.add(0, 8);
        CHECK.due("refused: nothing is kept for what came later", x.get(0, 8), 0);
    }

    private static void boundaries() {
        HoleCounter x = Spaces.with(new int[] {15, 30});
        x.put(0, 15, 2);
        x.put(0, 30, -3);
        int[] sets = {7, 11, 13, 14, 22, 26, 28};
        int[] want = {-2, 2, -2, 5, -3, 3, -3};
        for (int i = 0; i < sets.length; i++) {
            CHECK.due("boundary at " + sets[i], x.boundary(0, sets[i]), want[i]);
        }
        for (int set = 1; set < 32; set++) {
            if (Integer.bitCount(set) < 3) {
                CHECK.due("no boundary at " + set, x.boundary(0, set), 0);
            }
        }
        CHECK.due("no boundary at a tetrahedron", x.boundary(0, 15), 0);
        HoleCounter y = Spaces.with(new int[] {3, 5, 9, 17, 33, 65, 129});
        for (int v = 1; v < 8; v++) {
            y.put(0, 1 | 1 << v, 9);
            y.put(0, 1 << v, 4);
        }
        CHECK.due("boundary at 0", y.boundary(0, 1), -63);
        CHECK.due("boundary at 7", y.boundary(0, 128), 9);
        CHECK.due("boundary at an edge", y.boundary(0, 3), 0);
    }

    private static void boundaryRefusals() {
        HoleCounter x = Spaces.with(new int[] {7});
        x.put(0, 7, 3);
        CHECK.due("boundary", x.boundary(0, 3), 3);
        CHECK.due("boundary in the other complex", x.boundary(1, 3), 0);
        for (int c : Outside.COMPLEXES) {
            CHECK.due("boundary in complex " + c, x.boundary(c, 3), 0);
        }
        for (int set : NO_SIMPLEX) {
            CHECK.due("boundary at " + set, x.boundary(0, set), 0);
        }
    }

    private static void orderOfPoints() {
        HoleCounter x = Spaces.with(new int[] {3, 12});
        CHECK.due("nothing bounds", x.order(0, 0), 1);
        x.put(0, 1, 1);
        CHECK.due("a point does not", x.order(0, 0), 0);
        x.put(0, 4, -1);
        CHECK.due("nor two in two parts", x.order(0, 0), 0);
        x.put(0, 4, 0);
        x.put(0, 2, -1);
        CHECK.due("but two of one part", x.order(0, 0), 1);
        x.add(0, 6);
        x.put(0, 2, 0);
        x.put(0, 8, -1);
        CHECK.due("an edge between the parts", x.order(0, 0), 1);
    }

    private static void walk(HoleCounter x, int times, int... vertices) {
        for (int i = 0; i < vertices.length; i++) {
            int from = vertices[i];
            int to = vertices[(i + 1) % vertices.length];
            int edge = 1 << from | 1 << to;
            x.put(0, edge, x.get(0, edge) + (from < to ? times : -times));
        }
    }

    private static void orderOfLoops() {
        HoleCounter circle = Spaces.with(Spaces.CIRCLE);
        walk(circle, 1, 0, 1, 2);
        CHECK.due("round a circle", circle.order(0, 1), 0);
        circle.add(0, 7);
        CHECK.due("round a disc", circle.order(0, 1), 1);

        HoleCounter plane = Spaces.with(Spaces.PLANE);
        CHECK.due("0, 1, 4 is no triangle", plane.put(0, 19, 0), false);
        walk(plane, 1, 0, 1, 4);
        CHECK.due("a line of the plane", plane.order(0, 1), 2);
        walk(plane, 1, 0, 1, 4);
        CHECK.due("twice", plane.order(0, 1), 1);
        walk(plane, 5, 0, 1, 4);
        CHECK.due("seven times", plane.order(0, 1), 2);
        walk(plane, 1, 0, 1, 2);
        CHECK.due("with a bounding chain", plane.order(0, 1), 2);

        HoleCounter torus = Spaces.with(Spaces.TORUS);
        walk(torus, 1, 0, 1, 2, 3, 4, 5, 6);
        CHECK.due("round a torus", torus.order(0, 1), 0);
        walk(torus, -1, 0, 1, 2, 3, 4, 5, 6);
        walk(torus, 3, 0, 1, 3);
        CHECK.due("a triangle of the torus", torus.order(0, 1), 1);
    }

    private static void orderThree() {
        HoleCounter x = Spaces.with(Spaces.THREEFOLD);
        walk(x, 1, 0, 1, 2);
        CHECK.due("once", x.order(0, 1), 3);
        walk(x, 1, 0, 1, 2);
        CHECK.due("twice", x.order(0, 1), 3);
        walk(x, 1, 0, 1, 2);
        CHECK.due("three times", x.order(0, 1), 1);
        walk(x, -9, 0, 1, 2);
        CHECK.due("six times backwards", x.order(0, 1), 1);
        walk(x, -1, 0, 1, 2);
        CHECK.due("seven times backwards", x.order(0, 1), 3);
    }

    private static void orderOfSurfaces() {
        HoleCounter x = Spaces.with(new int[] {7, 11, 13, 14});
        x.put(0, 7, 5);
        CHECK.due("a side is open", x.order(0, 2), HoleCounter.OPEN);
        x.put(0, 11, -5);
        x.put(0, 13, 5);
        x.put(0, 14, -5);
        CHECK.due("a hollow", x.order(0, 2), 0);
        x.add(0, 15);
        CHECK.due("a solid", x.order(0, 2), 1);
        x.put(0, 15, 9);
        CHECK.due("what is kept of one dimension more does not count", x.order(0, 2), 1);
        x.put(0, 14, -4);
        CHECK.due("open again", x.order(0, 2), HoleCounter.OPEN);
    }

    private static void orderOfSolids() {
        HoleCounter x = Spaces.with(Spaces.HOLLOW);
        CHECK.due("0", x.order(0, 3), 1);
        x.put(0, 15, 1);
        CHECK.due("one solid is open", x.order(0, 3), HoleCounter.OPEN);
        x.put(0, 23, -1);
        x.put(0, 27, 1);
        x.put(0, 29, -1);
        x.put(0, 30, 1);
        CHECK.due("a cycle of solids bounds nothing", x.order(0, 3), 0);
    }

    private static void orderRefusals() {
        HoleCounter x = Spaces.with(new int[] {3});
        x.put(0, 3, 1);
        for (int c : Outside.COMPLEXES) {
            CHECK.due("order in complex " + c, x.order(c, 1), HoleCounter.BAD);
        }
        for (int k : Outside.DIMENSIONS) {
            CHECK.due("order of dimension " + k, x.order(0, k), HoleCounter.BAD);
        }
        CHECK.due("order of an edge", x.order(0, 1), HoleCounter.OPEN);
        CHECK.due("order in the other complex", x.order(1, 1), 1);
    }
}
