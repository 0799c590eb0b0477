/** The sentences of promises 11 to 14 that name a boundary case, each by a test of its own. */
public final class LimitsOfChainsTest {
    /** No simplices of a complex with the tetrahedron 0, 1, 2, 3, some of them once the bits above 8 are dropped. */
    private static final int[] NO_SIMPLEX = {
        0, -1, -241, 16, 17, 31, 128, 240, 255, 256, 257, 271, 1 << 16 | 15, Integer.MIN_VALUE, Integer.MIN_VALUE + 15,
        Integer.MAX_VALUE
    };

    private static final Check CHECK = new Check("LimitsOfChainsTest");

    public static void main(String[] args) {
        putFromMinusNineToNine();
        putBadComplex();
        putNoSimplex();
        putBadNumber();
        putForTheFullComplex();
        getWhatIsKept();
        getZeroWhenThereIsNone();
        boundaryAtItsLargest();
        boundaryOfFull();
        boundaryZeroByComplex();
        boundaryZeroWithoutSimplex();
        boundaryAtTetrahedra();
        orderOfEmpty();
        orderOfFull();
        orderZeroWhenThereIsNone();
        orderIsTheLeast();
        orderBad();
        orderOpen();
        orderBadBeforeOpen();
        CHECK.finish();
    }

    private static HoleCounter solids() {
        HoleCounter x = Spaces.with(new int[] {15});
        x.add(1, 15);
        return x;
    }

    private static void putFromMinusNineToNine() {
        CHECK.under("Promise 11: A complex keeps the number x for a simplex: true");
        for (int c = 0; c < 2; c++) {
            HoleCounter x = solids();
            for (int set : new int[] {1, 3, 7, 15, 8, 12, 14}) {
                for (int number = -9; number <= 9; number++) {
                    CHECK.due("put(" + c + ", " + set + ", " + number + ")", x.put(c, set, number), true);
                    CHECK.due("get(" + c + ", " + set + ")", x.get(c, set), number);
                }
                CHECK.due("the other complex", x.get(1 - c, set), 0);
            }
        }
    }

    private static void putBadComplex() {
        CHECK.under("Promise 11: false when c is not 0 or 1");
        for (int c : Outside.COMPLEXES) {
            HoleCounter x = solids();
            for (int set = 1; set < 16; set++) {
                CHECK.due("put(" + c + ", " + set + ", 1)", x.put(c, set, 1), false);
                CHECK.due("get(0, " + set + ")", x.get(0, set), 0);
                CHECK.due("get(1, " + set + ")", x.get(1, set), 0);
            }
        }
    }

    private static void putNoSimplex() {
        CHECK.under("Promise 11: false when .. set is no simplex of it");
        HoleCounter x = solids();
        for (int set : NO_SIMPLEX) {
            CHECK.due("put(0, " + set + ", 1)", x.put(0, set, 1), false);
        }
        for (int set = 1; set < 16; set++) {
            CHECK.due("what is kept for " + set, x.get(0, set), 0);
        }
        CHECK.due("of an empty complex", new HoleCounter().put(0, 1, 1), false);
        x.add(1, 48);
        CHECK.due("one of the other complex alone", x.put(0, 48, 1), false);
        x.add(0, 240);
        for (int set = 16; set < 256; set += 16) {
            CHECK.due("what is kept for one that came later, " + set, x.get(0, set), 0);
        }
        x.clear(0);
        CHECK.due("one that was there once", x.put(0, 15, 1), false);
    }

    private static void putBadNumber() {
        CHECK.under("Promise 11: false when .. x is not -9 .. 9");
        HoleCounter x = solids();
        for (int set : new int[] {1, 3, 7, 15}) {
            x.put(0, set, 4);
            for (int number : Outside.NUMBERS) {
                CHECK.due("put(0, " + set + ", " + number + ")", x.put(0, set, number), false);
                CHECK.due("what is kept", x.get(0, set), 4);
            }
        }
    }

    private static void putForTheFullComplex() {
        CHECK.under("Every complex KEEPS a number for each of its simplices");
        HoleCounter x = Spaces.with(Spaces.CUBE);
        for (int k = 0; k < 4; k++) {
            for (int i = 0; i < x.count(0, k); i++) {
                CHECK.due("put for " + k + ", " + i, x.put(0, x.simplex(0, k, i), (i + k) % 19 - 9), true);
            }
        }
        for (int k = 0; k < 4; k++) {
            for (int i = 0; i < x.count(0, k); i++) {
                CHECK.due("get for " + k + ", " + i, x.get(0, x.simplex(0, k, i)), (i + k) % 19 - 9);
            }
        }
    }

    private static void getWhatIsKept() {
        CHECK.under("Promise 12: The number that a complex keeps for a simplex");
        HoleCounter x = solids();
        x.put(0, 15, -9);
        x.put(1, 15, 9);
        CHECK.due("get(0, 15)", x.get(0, 15), -9);
        CHECK.due("get(1, 15)", x.get(1, 15), 9);
        x.add(0, 15);
        x.add(0, 240);
        CHECK.due("after more came", x.get(0, 15), -9);
    }

    private static void getZeroWhenThereIsNone() {
        CHECK.under("Promise 12: 0 when there is none.");
        HoleCounter x = solids();
        for (int set = 1; set < 16; set++) {
            x.put(0, set, 9);
            x.put(1, set, 9);
        }
        for (int c : Outside.COMPLEXES) {
            CHECK.due("get(" + c + ", 15)", x.get(c, 15), 0);
            CHECK.due("get(" + c + ", 0)", x.get(c, 0), 0);
        }
        for (int set : NO_SIMPLEX) {
            CHECK.due("get(0, " + set + ")", x.get(0, set), 0);
            CHECK.due("get(1, " + set + ")", x.get(1, set), 0);
            CHECK.due("of an empty complex", new HoleCounter().get(0, set), 0);
        }
        x.clear(0);
        CHECK.due("one that was there once", x.get(0, 15), 0);
        CHECK.due("in the other complex it is there still", x.get(1, 15), 9);
    }

    private static void boundaryAtItsLargest() {
        CHECK.under("Promise 13: What the boundary of the chain that a complex keeps of one dimension more gives");
        HoleCounter x = Spaces.with(new int[] {129, 130, 132, 136, 144, 160, 192});
        for (int v = 0; v < 7; v++) {
            x.put(0, 128 | 1 << v, 9);
            x.put(0, 1 << v, 9);
        }
        CHECK.due("seven edges of 9 at vertex 7", x.boundary(0, 128), 63);
        CHECK.due("one edge of 9 at vertex 0", x.boundary(0, 1), -9);
        CHECK.due("at an edge, where there are no triangles", x.boundary(0, 129), 0);
        for (int v = 0; v < 7; v++) {
            x.put(0, 128 | 1 << v, -9);
        }
        CHECK.due("seven edges of -9 at vertex 7", x.boundary(0, 128), -63);
    }

    private static void boundaryOfFull() {
        CHECK.under("Promise 13: What the boundary of the chain that a complex keeps of one dimension more gives");
        HoleCounter x = new HoleCounter();
        Spaces.addAll(x, 1, Spaces.CUBE);
        for (int i = 0; i < 24; i++) {
            x.put(1, x.simplex(1, 1, i), 9);
        }
        int[] lower = {0, 1, 2, 3, 3, 4, 5, 6};
        for (int v = 0; v < 8; v++) {
            CHECK.due("all edges at vertex " + v, x.boundary(1, 1 << v), 9 * (2 * lower[v] - 6));
        }
        x.put(1, 224, -9);
        CHECK.due("the last triangle at the last edge", x.boundary(1, 192), -9);
        x.put(1, 240, 9);
        CHECK.due("the last tetrahedron at the last triangle", x.boundary(1, 224), 9);
    }

    private static void boundaryZeroByComplex() {
        CHECK.under("Promise 13: 0 when c is not 0 or 1");
        HoleCounter x = solids();
        x.put(0, 15, 9);
        x.put(1, 15, 9);
        CHECK.due("boundary(0, 14)", x.boundary(0, 14), 9);
        for (int c : Outside.COMPLEXES) {
            CHECK.due("boundary(" + c + ", 14)", x.boundary(c, 14), 0);
        }
    }

    private static void boundaryZeroWithoutSimplex() {
        CHECK.under("Promise 13: 0 when .. set is no simplex of it");
        HoleCounter x = solids();
        for (int set = 1; set < 16; set++) {
            x.put(0, set, 9);
        }
        for (int set : NO_SIMPLEX) {
            CHECK.due("boundary(0, " + set + ")", x.boundary(0, set), 0);
            CHECK.due("of an empty complex", new HoleCounter().boundary(1, set), 0);
        }
        x.clear(0);
        for (int set = 1; set < 16; set++) {
            CHECK.due("of a cleared complex, " + set, x.boundary(0, set), 0);
        }
    }

    private static void boundaryAtTetrahedra() {
        CHECK.under("there are no chains of dimension .. 4 but 0");
        HoleCounter x = Spaces.with(Spaces.CUBE);
        for (int set : Spaces.CUBE) {
            x.put(0, set, 9);
        }
        for (int set : Spaces.CUBE) {
            CHECK.due("boundary at " + set, x.boundary(0, set), 0);
        }
    }

    private static void orderOfEmpty() {
        CHECK.under("Promise 14: the least m > 0 for which m times it is a bounding chain");
        HoleCounter x = new HoleCounter();
        for (int k = 0; k < 4; k++) {
            CHECK.due("of an empty complex, " + k, x.order(0, k), 1);
            CHECK.due("of the other empty complex, " + k, x.order(1, k), 1);
        }
    }

    private static void orderOfFull() {
        CHECK.under("Promise 14: the least m > 0 for which m times it is a bounding chain");
        for (int c = 0; c < 2; c++) {
            HoleCounter x = new HoleCounter();
            Spaces.addAll(x, c, Spaces.CUBE);
            for (int k = 0; k < 4; k++) {
                CHECK.due("nothing kept, " + k, x.order(c, k), 1);
            }
            x.put(c, 1, -9);
            x.put(c, 128, 9);
            CHECK.due("two points", x.order(c, 0), 1);
            x.put(c, 3, 9);
            x.put(c, 66, 9);
            x.put(c, 65, -9);
            CHECK.due("a way round three sides", x.order(c, 1), 1);
            for (int i = 0; i < 4; i++) {
                x.put(c, 15 - (1 << i), i % 2 == 0 ? 9 : -9);
            }
            CHECK.due("the faces of a tetrahedron", x.order(c, 2), 1);
        }
    }

    private static void orderZeroWhenThereIsNone() {
        CHECK.under("Promise 14: 0 when there is none.");
        HoleCounter x = Spaces.with(new int[] {3, 12});
        x.put(0, 1, 1);
        CHECK.due("a point", x.order(0, 0), 0);
        x.put(0, 2, 9);
        x.put(0, 8, -9);
        CHECK.due("points whose sum is not 0", x.order(0, 0), 0);
        HoleCounter circle = Spaces.with(Spaces.CIRCLE);
        circle.put(0, 3, -9);
        circle.put(0, 6, -9);
        circle.put(0, 5, 9);
        CHECK.due("a circle", circle.order(0, 1), 0);
        HoleCounter sphere = Spaces.with(new int[] {7, 11, 13, 14});
        for (int i = 0; i < 4; i++) {
            sphere.put(0, 15 - (1 << i), i % 2 == 0 ? 1 : -1);
        }
        CHECK.due("a sphere", sphere.order(0, 2), 0);
        HoleCounter hollow = Spaces.with(Spaces.HOLLOW);
        for (int i = 0; i < 5; i++) {
            hollow.put(0, 31 - (1 << i), i % 2 == 0 ? 9 : -9);
        }
        CHECK.due("a sphere of tetrahedra", hollow.order(0, 3), 0);
    }

    private static void orderIsTheLeast() {
        CHECK.under("Promise 14: the least m > 0 for which m times it is a bounding chain");
        int[][] spaces = {{7}, Spaces.PLANE, Spaces.THREEFOLD};
        int[][] loops = {{3, 6, 5}, {3, 18, 17}, {3, 6, 5}};
        int[] orders = {1, 2, 3};
        for (int s = 0; s < spaces.length; s++) {
            HoleCounter x = Spaces.with(spaces[s]);
            for (int times = -9; times <= 9; times++) {
                x.put(0, loops[s][0], times);
                x.put(0, loops[s][1], times);
                x.put(0, loops[s][2], -times);
                CHECK.due(times + " times round", x.order(0, 1), times % orders[s] == 0 ? 1 : orders[s]);
            }
        }
    }

    private static void orderBad() {
        CHECK.under("Promise 14: BAD when c is not 0 or 1 or k not 0 .. 3");
        for (int[] sets : new int[][] {{}, {15}, Spaces.CUBE}) {
            HoleCounter x = Spaces.with(sets);
            for (int c : Outside.COMPLEXES) {
                for (int k = 0; k < 4; k++) {
                    CHECK.due("order(" + c + ", " + k + ")", x.order(c, k), HoleCounter.BAD);
                }
            }
            for (int k : Outside.DIMENSIONS) {
                CHECK.due("order(0, " + k + ")", x.order(0, k), HoleCounter.BAD);
                CHECK.due("order(1, " + k + ")", x.order(1, k), HoleCounter.BAD);
            }
            CHECK.due("order(0, 0)", x.order(0, 0), 1);
            CHECK.due("order(1, 3)", x.order(1, 3), 1);
        }
    }

    private static void orderOpen() {
        CHECK.under("Promise 14: OPEN when it is no cycle.");
        int[] sets = {1, 3, 7, 15};
        for (int c = 0; c < 2; c++) {
            for (int k = 1; k < 4; k++) {
                HoleCounter x = solids();
                x.put(c, sets[k], 1);
                for (int other = 0; other < 4; other++) {
                    CHECK.due("dimension " + other + " where " + k + " is open", x.order(c, other),
                            other == k ? HoleCounter.OPEN : 1);
                    CHECK.due("the other complex", x.order(1 - c, other), 1);
                }
                x.put(c, sets[k], 0);
                CHECK.due("0 again", x.order(c, k), 1);
            }
        }
        HoleCounter last = Spaces.with(Spaces.CUBE);
        last.put(0, 192, 1);
        CHECK.due("the last edge of a full complex", last.order(0, 1), HoleCounter.OPEN);
        last.put(0, 224, 9);
        CHECK.due("the last triangle of a full complex", last.order(0, 2), HoleCounter.OPEN);
        last.put(0, 240, -9);
        CHECK.due("the last tetrahedron of a full complex", last.order(0, 3), HoleCounter.OPEN);
        HoleCounter circle = Spaces.with(Spaces.CIRCLE);
        circle.put(0, 3, 9);
        circle.put(0, 6, 9);
        circle.put(0, 5, -8);
        CHECK.due("a circle but for one", circle.order(0, 1), HoleCounter.OPEN);
    }

    private static void orderBadBeforeOpen() {
        CHECK.under("refusals are tested in the order in which they are named");
        HoleCounter x = solids();
        for (int set : new int[] {3, 7, 15}) {
            x.put(0, set, 1);
            x.put(1, set, 1);
        }
        for (int k = 1; k < 4; k++) {
            CHECK.due("order(0, " + k + ")", x.order(0, k), HoleCounter.OPEN);
            for (int c : Outside.COMPLEXES) {
                CHECK.due("order(" + c + ", " + k + ")", x.order(c, k), HoleCounter.BAD);
            }
        }
        for (int k : Outside.DIMENSIONS) {
            CHECK.due("order(0, " + k + ")", x.order(0, k), HoleCounter.BAD);
            CHECK.due("order(1, " + k + ")", x.order(1, k), HoleCounter.BAD);
        }
    }
}
