/** The sentences of promises 1 to 7 that name a boundary case, each by a test of its own. */
public final class LimitsOfComplexTest {
    private static final Check CHECK = new Check("LimitsOfComplexTest");

    public static void main(String[] args) {
        aNewObject();
        objectsShareNothing();
        addTellsHowManyMore();
        addBadComplex();
        addBadSet();
        addTooManyVertices();
        addFull();
        addBadBeforeFull();
        clearTakesAll();
        clearBadComplex();
        clearLeavesTheMap();
        clearLeavesTheOther();
        clearMakesRoom();
        countOfEmptyAndFull();
        countBad();
        simplexFirstAndLast();
        simplexBad();
        incidenceFirstAndLast();
        incidenceZeroByArguments();
        incidenceZeroWithoutSimplex();
        eulerOfEmptyAndFull();
        eulerZeroByArgument();
        CHECK.finish();
    }

    private static void aNewObject() {
        CHECK.under("Promise 1: Two empty complexes.");
        for (int c = 0; c < 2; c++) {
            HoleCounter x = new HoleCounter();
            for (int k = 0; k < 4; k++) {
                CHECK.due("count", x.count(c, k), 0);
                CHECK.due("simplex", x.simplex(c, k, 0), HoleCounter.BAD);
                CHECK.due("incidence", x.incidence(c, k, 0, 0), 0);
                CHECK.due("betti", x.betti(c, k), 0);
                CHECK.due("torsion", x.torsion(c, k, 0), 0);
                CHECK.due("bettiModulo", x.bettiModulo(c, k, 2), 0);
                CHECK.due("order", x.order(c, k), 1);
                CHECK.due("rank", x.rank(k), 0);
            }
            CHECK.due("euler", x.euler(c), 0);
            CHECK.due("put", x.put(c, 1, 0), false);
            CHECK.due("get", x.get(c, 1), 0);
            CHECK.due("boundary", x.boundary(c, 1), 0);
            CHECK.due("simplicial", x.simplicial(), true);
            CHECK.due("image", x.image(1), 0);
            CHECK.due("products", x.products(c), 0);
            CHECK.due("clear", x.clear(c), true);
        }
    }

    private static void objectsShareNothing() {
        CHECK.under("Promise 1: Two empty complexes.");
        HoleCounter first = Spaces.with(new int[] {15});
        first.put(0, 15, 9);
        first.map(0, 7);
        HoleCounter second = new HoleCounter();
        CHECK.due("tetrahedra of another object", second.count(0, 3), 0);
        second.add(0, 15);
        second.add(1, 15);
        CHECK.due("numbers of another object", second.get(0, 15), 0);
        CHECK.due("the map of another object", second.simplicial(), true);
        second.clear(0);
        CHECK.due("the first object stays", first.get(0, 15), 9);
    }

    private static void addTellsHowManyMore() {
        CHECK.under("Promise 2: how many simplices more it has then");
        HoleCounter x = new HoleCounter();
        CHECK.due("a tetrahedron, the largest set", x.add(0, 240), 15);
        CHECK.due("again", x.add(0, 240), 0);
        CHECK.due("a face", x.add(0, 128), 0);
        CHECK.due("a vertex, the smallest set", x.add(0, 1), 1);
        CHECK.due("an edge between", x.add(0, 129), 1);
        CHECK.due("a tetrahedron on a triangle and an edge", x.add(0, 225), 6);
        CHECK.due("the same in the other complex", x.add(1, 225), 15);
    }

    private static void addBadComplex() {
        CHECK.under("Promise 2: BAD when c is not 0 or 1");
        for (int c : Outside.COMPLEXES) {
            HoleCounter x = new HoleCounter();
            CHECK.due("add(" + c + ", 1)", x.add(c, 1), HoleCounter.BAD);
            CHECK.due("vertices of 0", x.count(0, 0), 0);
            CHECK.due("vertices of 1", x.count(1, 0), 0);
        }
        CHECK.due("add(0, 1)", new HoleCounter().add(0, 1), 1);
        CHECK.due("add(1, 1)", new HoleCounter().add(1, 1), 1);
    }

    private static void addBadSet() {
        CHECK.under("Promise 2: BAD when .. set is not 1 .. 255");
        for (int set : new int[] {0, -1, -2, -128, -256, 256, 257, 263, 512, 1 << 16, 1 << 30, 3 << 30,
            Integer.MIN_VALUE, Integer.MIN_VALUE + 1, Integer.MAX_VALUE}) {
            HoleCounter x = new HoleCounter();
            CHECK.due("add(0, " + set + ")", x.add(0, set), HoleCounter.BAD);
            CHECK.due("add(1, " + set + ")", x.add(1, set), HoleCounter.BAD);
            CHECK.due("vertices", x.count(0, 0) + x.count(1, 0), 0);
        }
        CHECK.due("add(0, 1)", new HoleCounter().add(0, 1), 1);
        CHECK.due("add(0, 240)", new HoleCounter().add(0, 240), 15);
    }

    private static void addTooManyVertices() {
        CHECK.under("Promise 2: BAD when .. set .. has more than four vertices");
        for (int set = 1; set < 256; set++) {
            HoleCounter x = new HoleCounter();
            boolean many = Integer.bitCount(set) > 4;
            CHECK.due("add(0, " + set + ") is BAD", x.add(0, set) == HoleCounter.BAD, many);
            CHECK.due("then there are no vertices", x.count(0, 0) == 0, many);
        }
    }

    private static void addFull() {
        CHECK.under("Promise 2: FULL");
        for (int c = 0; c < 2; c++) {
            HoleCounter x = new HoleCounter();
            for (int i = 0; i < 6; i++) {
                CHECK.due("side " + i + " of a cube is taken", x.add(c, Spaces.CUBE[i]) > 0, true);
            }
            CHECK.due("edges", x.count(c, 1), 24);
            CHECK.due("triangles", x.count(c, 2), 24);
            for (int set : new int[] {33, 18, 132, 72}) {
                CHECK.due("edge 25, " + set, x.add(c, set), HoleCounter.FULL);
            }
            CHECK.due("triangle 25", x.add(c, 67), HoleCounter.FULL);
            CHECK.due("tetrahedron with triangles 25 to 28", x.add(c, 195), HoleCounter.FULL);
            CHECK.due("tetrahedron with edge 25", x.add(c, 0b100111), HoleCounter.FULL);
            for (int set : Spaces.CUBE) {
                CHECK.due("one that is there", x.add(c, set), 0);
            }
            CHECK.due("edges", x.count(c, 1), 24);
            CHECK.due("triangles", x.count(c, 2), 24);
            CHECK.due("tetrahedra", x.count(c, 3), 6);
            CHECK.due("the other complex has room", x.add(1 - c, 33), 3);
        }
    }

    private static void addBadBeforeFull() {
        CHECK.under("refusals are tested in the order in which they are named");
        HoleCounter x = Spaces.with(Spaces.CUBE);
        Spaces.addAll(x, 1, Spaces.CUBE);
        for (int c : Outside.COMPLEXES) {
            CHECK.due("edge 25 of complex " + c, x.add(c, 33), HoleCounter.BAD);
        }
        for (int set : Outside.LARGE_SETS) {
            CHECK.due("a set of too many vertices that would bring edge 25", x.add(0, set), HoleCounter.BAD);
        }
        for (int set : Outside.SETS) {
            CHECK.due("a set out of bounds", x.add(1, set), HoleCounter.BAD);
        }
        CHECK.due("edge 25 with vertex 8", x.add(0, 256 + 33), HoleCounter.BAD);
        CHECK.due("edge 25", x.add(0, 33), HoleCounter.FULL);
    }

    private static void clearTakesAll() {
        CHECK.under("Promise 3: A complex has no simplices any more: true");
        for (int c = 0; c < 2; c++) {
            HoleCounter x = new HoleCounter();
            CHECK.due("clear an empty one", x.clear(c), true);
            Spaces.addAll(x, c, Spaces.CUBE);
            x.put(c, 3, 9);
            CHECK.due("clear a full one", x.clear(c), true);
            for (int k = 0; k < 4; k++) {
                CHECK.due("count of " + k, x.count(c, k), 0);
                CHECK.due("simplex of " + k, x.simplex(c, k, 0), HoleCounter.BAD);
                CHECK.due("betti of " + k, x.betti(c, k), 0);
                CHECK.due("order of " + k, x.order(c, k), 1);
            }
            CHECK.due("get", x.get(c, 3), 0);
            CHECK.due("put", x.put(c, 3, 1), false);
            CHECK.due("boundary", x.boundary(c, 1), 0);
            CHECK.due("products", x.products(c), 0);
            CHECK.due("add anew", x.add(c, 15), 15);
            CHECK.due("the number is 0 anew", x.get(c, 3), 0);
        }
    }

    private static void clearBadComplex() {
        CHECK.under("Promise 3: false when c is not 0 or 1");
        for (int c : Outside.COMPLEXES) {
            HoleCounter x = Spaces.with(new int[] {15});
            x.add(1, 7);
            CHECK.due("clear(" + c + ")", x.clear(c), false);
            CHECK.due("complex 0 stays", x.count(0, 3), 1);
            CHECK.due("complex 1 stays", x.count(1, 2), 1);
        }
    }

    private static void clearLeavesTheMap() {
        CHECK.under("Promise 3: (The map stays.)");
        for (int c = 0; c < 2; c++) {
            HoleCounter x = new HoleCounter();
            for (int v = 0; v < 8; v++) {
                x.map(v, 7 - v);
            }
            x.clear(c);
            for (int v = 0; v < 8; v++) {
                x.clear(0);
                x.clear(1);
                x.add(0, 1 << v);
                x.add(1, 1 << 7 - v);
                CHECK.due("f(" + v + ") = " + (7 - v), x.simplicial(), true);
            }
        }
    }

    private static void clearLeavesTheOther() {
        CHECK.under("Promise 3: A complex has no simplices any more");
        for (int c = 0; c < 2; c++) {
            HoleCounter x = Spaces.with(new int[] {15});
            x.add(1, 15);
            x.put(1 - c, 15, -9);
            x.clear(c);
            CHECK.due("the other one's tetrahedra", x.count(1 - c, 3), 1);
            CHECK.due("the other one's number", x.get(1 - c, 15), -9);
        }
    }

    private static void clearMakesRoom() {
        CHECK.under("Promise 3: A complex has no simplices any more");
        HoleCounter x = Spaces.with(Spaces.CUBE);
        CHECK.due("edge 25", x.add(0, 33), HoleCounter.FULL);
        x.clear(0);
        CHECK.due("edge 1", x.add(0, 33), 3);
        Spaces.addAll(x, 0, new int[] {18, 132, 72});
        CHECK.due("the edges across the cube", x.count(0, 1), 4);
    }

    private static void countOfEmptyAndFull() {
        CHECK.under("Promise 4: How many simplices of dimension k a complex has.");
        int[] full = {8, 24, 24, 6};
        HoleCounter x = new HoleCounter();
        Spaces.addAll(x, 1, Spaces.CUBE);
        for (int k = 0; k < 4; k++) {
            CHECK.due("of an empty one, " + k, x.count(0, k), 0);
            CHECK.due("of a full one, " + k, x.count(1, k), full[k]);
        }
    }

    private static void countBad() {
        CHECK.under("Promise 4: BAD when c is not 0 or 1 or k not 0 .. 3.");
        HoleCounter x = Spaces.with(new int[] {15});
        x.add(1, 15);
        for (int c : Outside.COMPLEXES) {
            for (int k = 0; k < 4; k++) {
                CHECK.due("count(" + c + ", " + k + ")", x.count(c, k), HoleCounter.BAD);
            }
        }
        for (int k : Outside.DIMENSIONS) {
            CHECK.due("count(0, " + k + ")", x.count(0, k), HoleCounter.BAD);
            CHECK.due("count(1, " + k + ")", x.count(1, k), HoleCounter.BAD);
            CHECK.due("of an empty complex", new HoleCounter().count(0, k), HoleCounter.BAD);
        }
        CHECK.due("count(0, 0)", x.count(0, 0), 4);
        CHECK.due("count(1, 3)", x.count(1, 3), 1);
    }

    private static void simplexFirstAndLast() {
        CHECK.under("Promise 5: The set of simplex i of dimension k.");
        HoleCounter x = new HoleCounter();
        Spaces.addAll(x, 1, Spaces.CUBE);
        int[][] ends = {{1, 128}, {3, 192}, {7, 224}, {15, 240}};
        for (int k = 0; k < 4; k++) {
            CHECK.due("the first of " + k, x.simplex(1, k, 0), ends[k][0]);
            CHECK.due("the last of " + k, x.simplex(1, k, x.count(1, k) - 1), ends[k][1]);
        }
        CHECK.due("edge 23", x.simplex(1, 1, 23), 192);
        CHECK.due("triangle 23", x.simplex(1, 2, 23), 224);
    }

    private static void simplexBad() {
        CHECK.under("Promise 5: BAD when c is not 0 or 1, k not 0 .. 3, or there is no such simplex.");
        HoleCounter x = Spaces.with(new int[] {15, 192});
        HoleCounter full = Spaces.with(Spaces.CUBE);
        for (int c : Outside.COMPLEXES) {
            CHECK.due("simplex(" + c + ", 0, 0)", x.simplex(c, 0, 0), HoleCounter.BAD);
        }
        for (int k : Outside.DIMENSIONS) {
            CHECK.due("simplex(0, " + k + ", 0)", x.simplex(0, k, 0), HoleCounter.BAD);
        }
        for (int k = 0; k < 4; k++) {
            for (int i : Outside.places(x.count(0, k))) {
                CHECK.due("simplex(0, " + k + ", " + i + ")", x.simplex(0, k, i), HoleCounter.BAD);
            }
            for (int i : Outside.places(full.count(0, k))) {
                CHECK.due("of a full one, " + k + ", " + i, full.simplex(0, k, i), HoleCounter.BAD);
            }
            for (int i : Outside.places(0)) {
                CHECK.due("of an empty one, " + k + ", " + i, x.simplex(1, k, i), HoleCounter.BAD);
            }
        }
    }

    private static void incidenceFirstAndLast() {
        CHECK.under("Promise 6: What the boundary of simplex j of dimension k gives to simplex i of dimension k - 1");
        HoleCounter x = new HoleCounter();
        Spaces.addAll(x, 1, Spaces.CUBE);
        CHECK.due("edge 0, 1 at vertex 0", x.incidence(1, 1, 0, 0), -1);
        CHECK.due("edge 6, 7 at vertex 7", x.incidence(1, 1, 7, 23), 1);
        CHECK.due("edge 0, 1 at vertex 7", x.incidence(1, 1, 7, 0), 0);
        CHECK.due("triangle 0, 1, 2 at edge 0, 1", x.incidence(1, 2, 0, 0), 1);
        CHECK.due("triangle 5, 6, 7 at edge 6, 7", x.incidence(1, 2, 23, 23), 1);
        CHECK.due("triangle 0, 1, 2 at edge 6, 7", x.incidence(1, 2, 23, 0), 0);
        CHECK.due("tetrahedron 0 .. 3 at triangle 0, 1, 2", x.incidence(1, 3, 0, 0), -1);
        CHECK.due("tetrahedron 4 .. 7 at triangle 5, 6, 7", x.incidence(1, 3, 23, 5), 1);
        CHECK.due("tetrahedron 0 .. 3 at triangle 5, 6, 7", x.incidence(1, 3, 23, 0), 0);
    }

    private static void incidenceZeroByArguments() {
        CHECK.under("Promise 6: 0 when c is not 0 or 1, k not 1 .. 3");
        HoleCounter x = Spaces.with(new int[] {15});
        for (int k = 1; k < 4; k++) {
            CHECK.due("it is not 0 for " + k, x.incidence(0, k, 0, 0) == 0, false);
            for (int c : Outside.COMPLEXES) {
                CHECK.due("incidence(" + c + ", " + k + ", 0, 0)", x.incidence(c, k, 0, 0), 0);
            }
        }
        for (int k : new int[] {0, -1, 4, 5, Integer.MIN_VALUE, Integer.MIN_VALUE + 1, Integer.MAX_VALUE}) {
            CHECK.due("incidence(0, " + k + ", 0, 0)", x.incidence(0, k, 0, 0), 0);
        }
    }

    private static void incidenceZeroWithoutSimplex() {
        CHECK.under("Promise 6: 0 when .. there is no such simplex");
        for (int[] sets : new int[][] {{}, {15}, Spaces.CUBE}) {
            HoleCounter x = Spaces.with(sets);
            for (int k = 1; k < 4; k++) {
                for (int i : Outside.places(x.count(0, k - 1))) {
                    CHECK.due("incidence(0, " + k + ", " + i + ", 0)", x.incidence(0, k, i, 0), 0);
                }
                for (int j : Outside.places(x.count(0, k))) {
                    CHECK.due("incidence(0, " + k + ", 0, " + j + ")", x.incidence(0, k, 0, j), 0);
                    CHECK.due("neither simplex", x.incidence(0, k, j, j), 0);
                }
            }
        }
        HoleCounter shorter = Spaces.with(new int[] {240});
        shorter.clear(0);
        shorter.add(0, 3);
        CHECK.due("an edge that was there once", shorter.incidence(0, 1, 0, 1), 0);
        CHECK.due("a vertex that was there once", shorter.incidence(0, 1, 2, 0), 0);
        CHECK.due("a triangle that was there once", shorter.incidence(0, 2, 0, 0), 0);
    }

    private static void eulerOfEmptyAndFull() {
        CHECK.under("Promise 7: The sum of the numbers of simplices of dimensions 0 and 2, less those of 1 and 3");
        HoleCounter x = new HoleCounter();
        CHECK.due("of an empty one", x.euler(0), 0);
        Spaces.addAll(x, 1, Spaces.CUBE);
        CHECK.due("of a full one", x.euler(1), 8 - 24 + 24 - 6);
        CHECK.due("of an empty one still", x.euler(0), 0);
        CHECK.due("the largest: eight vertices", Spaces.with(new int[] {1, 2, 4, 8, 16, 32, 64, 128}).euler(0), 8);
        HoleCounter edges = new HoleCounter();
        for (int set = 1; set < 256; set++) {
            if (Integer.bitCount(set) == 2) {
                edges.add(0, set);
            }
        }
        CHECK.due("the smallest: 24 edges on eight vertices", edges.euler(0), -16);
    }

    private static void eulerZeroByArgument() {
        CHECK.under("Promise 7: 0 when c is not 0 or 1");
        HoleCounter x = Spaces.with(new int[] {1});
        x.add(1, 1);
        for (int c : Outside.COMPLEXES) {
            CHECK.due("euler(" + c + ")", x.euler(c), 0);
        }
        CHECK.due("euler(0)", x.euler(0), 1);
        CHECK.due("euler(1)", x.euler(1), 1);
    }
}
