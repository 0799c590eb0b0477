/** Promises 1 to 7: a new object, add, clear, count, simplex, incidence and euler. */
public final class ComplexTest {
    private static final Check CHECK = new Check("ComplexTest");

    public static void main(String[] args) {
        newObject();
        addWithFaces();
        addRefusals();
        addFullOfEdges();
        addFullOfTriangles();
        addManyTetrahedra();
        addUpToTheLimit();
        clearOne();
        countAndSimplex();
        incidence();
        euler();
        CHECK.finish();
    }

    private static void newObject() {
        HoleCounter x = new HoleCounter();
        for (int c = 0; c < 2; c++) {
            for (int k = 0; k < 4; k++) {
                CHECK.due("new: count", x.count(c, k), 0);
                CHECK.due("new: simplex", x.simplex(c, k, 0), HoleCounter.BAD);
                CHECK.due("new: betti", x.betti(c, k), 0);
                CHECK.due("new: order", x.order(c, k), 1);
            }
            CHECK.due("new: euler", x.euler(c), 0);
        }
        CHECK.due("new: simplicial", x.simplicial(), true);
        Spaces.addAll(x, 0, Spaces.TORUS);
        Spaces.addAll(x, 1, Spaces.TORUS);
        CHECK.due("new: the map is f(v) = v", x.rank(2), 1);
        CHECK.due("objects do not share simplices", new HoleCounter().count(0, 0), 0);
    }

    private static void addWithFaces() {
        HoleCounter x = new HoleCounter();
        CHECK.due("add a vertex", x.add(0, 128), 1);
        CHECK.due("add it again", x.add(0, 128), 0);
        CHECK.due("add an edge at it", x.add(0, 129), 2);
        CHECK.due("add a tetrahedron over it", x.add(0, 0b11000011), 12);
        CHECK.due("add a face of it", x.add(0, 0b11000001), 0);
        CHECK.due("tetrahedra", x.count(0, 3), 1);
        CHECK.due("triangles", x.count(0, 2), 4);
        CHECK.due("edges", x.count(0, 1), 6);
        CHECK.due("vertices", x.count(0, 0), 4);
        CHECK.due("the other complex stays empty", x.count(1, 0), 0);
        CHECK.due("add to the other complex", x.add(1, 240), 15);
        CHECK.due("the first one stays", x.count(0, 3), 1);
        x.put(0, 129, 5);
        x.add(0, 3);
        x.add(0, 7);
        CHECK.due("add leaves the kept numbers", x.get(0, 129), 5);
        CHECK.due("new simplices keep 0", x.get(0, 7), 0);
    }

    private static void addRefusals() {
        HoleCounter x = Spaces.with(new int[] {7});
        for (int c : Outside.COMPLEXES) {
            CHECK.due("add to complex " + c, x.add(c, 1), HoleCounter.BAD);
        }
        for (int set : new int[] {0, -1, 256, 257, 31, 255, 0b11111000, Integer.MIN_VALUE, Integer.MAX_VALUE, 1 << 16}) {
            CHECK.due("add " + set, x.add(0, set), HoleCounter.BAD);
        }
        CHECK.due("add with two wrong arguments", x.add(2, 0), HoleCounter.BAD);
        CHECK.due("refused: vertices", x.count(0, 0), 3);
        CHECK.due("refused: edges", x.count(0, 1), 3);
        CHECK.due("refused: triangles", x.count(0, 2), 1);
        CHECK.due("refused: the other complex", x.count(1, 0), 0);
    }

    private static void addFullOfEdges() {
        HoleCounter x = new HoleCounter();
        int edges = 0;
        for (int a = 0; a < 8; a++) {
            for (int b = a + 1; b < 8; b++) {
                int want = edges >= 24 ? HoleCounter.FULL : edges == 0 ? 3 : a == 0 ? 2 : 1;
                CHECK.due("edge " + edges, x.add(0, 1 << a | 1 << b), want);
                edges++;
            }
        }
        CHECK.due("edges", x.count(0, 1), 24);
        CHECK.due("an edge that is there is not refused", x.add(0, 3), 0);
        CHECK.due("a triangle on the edges", x.add(0, 7), 1);
        CHECK.due("a triangle with an edge too many", x.add(0, 0b11000001), HoleCounter.FULL);
        CHECK.due("refused: its other parts stay out", x.count(0, 2), 1);
        CHECK.due("BAD goes before FULL", x.add(0, 0b11111000), HoleCounter.BAD);
        CHECK.due("the other complex has room", x.add(1, 192), 3);
    }

    private static void addFullOfTriangles() {
        HoleCounter x = new HoleCounter();
        int triangles = 0;
        for (int set = 1; set < 128; set++) {
            if (Integer.bitCount(set) == 3) {
                int got = x.add(0, set);
                if (triangles >= 24) {
                    CHECK.due("triangle " + triangles, got, HoleCounter.FULL);
                } else {
                    CHECK.due("triangle " + triangles + " is taken", got > 0, true);
                }
                triangles++;
            }
        }
        CHECK.due("triangles", x.count(0, 2), 24);
        CHECK.due("seven vertices", x.count(0, 0), 7);
        CHECK.due("a tetrahedron on the triangles", x.add(0, 15), 1);
        CHECK.due("refused: no vertex more by a triangle too many", x.add(0, 0b10000011), HoleCounter.FULL);
        CHECK.due("seven vertices still", x.count(0, 0), 7);
        CHECK.due("a vertex more", x.add(0, 128), 1);
    }

    /** Only the triangles' limit can be met on the way: 24 of them bear 16 tetrahedra at most. */
    private static void addManyTetrahedra() {
        HoleCounter x = new HoleCounter();
        int taken = 0;
        for (int set = 1; set < 256; set++) {
            if (Integer.bitCount(set) == 4 && x.add(0, set) >= 0) {
                taken++;
            }
        }
        CHECK.due("tetrahedra taken", x.count(0, 3), taken);
        CHECK.due("no triangle too many", x.count(0, 2) <= 24, true);
        CHECK.due("no edge too many", x.count(0, 1) <= 24, true);
    }

    private static void addUpToTheLimit() {
        HoleCounter x = new HoleCounter();
        Spaces.addAll(x, 0, new int[] {15, 240, 85, 170, 102});
        x.put(0, 15, 7);
        CHECK.due("edges", x.count(0, 1), 22);
        CHECK.due("triangles", x.count(0, 2), 20);
        CHECK.due("up to 24 of both", x.add(0, 153), 7);
        CHECK.due("edges", x.count(0, 1), 24);
        CHECK.due("triangles", x.count(0, 2), 24);
        CHECK.due("no edge more", x.add(0, 51), HoleCounter.FULL);
        CHECK.due("refused: tetrahedra", x.count(0, 3), 6);
        CHECK.due("refused: edges", x.count(0, 1), 24);
        CHECK.due("refused: the kept numbers stay", x.get(0, 15), 7);
    }

    private static void clearOne() {
        HoleCounter x = new HoleCounter();
        x.add(0, 15);
        x.add(1, 7);
        x.put(0, 3, 4);
        x.put(1, 3, 5);
        x.map(0, 3);
        for (int c : Outside.COMPLEXES) {
            CHECK.due("clear " + c, x.clear(c), false);
        }
        CHECK.due("refused: complex 0 stays", x.count(0, 3), 1);
        CHECK.due("refused: complex 1 stays", x.count(1, 2), 1);
        CHECK.due("clear 0", x.clear(0), true);
        for (int k = 0; k < 4; k++) {
            CHECK.due("cleared: count", x.count(0, k), 0);
        }
        CHECK.due("cleared: get", x.get(0, 3), 0);
        CHECK.due("complex 1 stays", x.count(1, 2), 1);
        CHECK.due("what complex 1 keeps stays", x.get(1, 3), 5);
        CHECK.due("clear an empty one", x.clear(0), true);
        CHECK.due("add anew", x.add(0, 3), 3);
        CHECK.due("kept numbers start at 0 anew", x.get(0, 3), 0);
        CHECK.due("the map stays: f(0) is no vertex of complex 1", x.simplicial(), false);
        x.add(1, 10);
        CHECK.due("the map stays: f(0) = 3", x.simplicial(), true);
        CHECK.due("clear 1", x.clear(1), true);
        CHECK.due("complex 0 stays", x.count(0, 1), 1);
    }

    private static void countAndSimplex() {
        HoleCounter x = Spaces.with(new int[] {0b11000100, 0b111, 0b10001});
        int[][] want = {{1, 2, 4, 16, 64, 128}, {3, 5, 6, 17, 68, 132, 192}, {7, 196}, {}};
        for (int k = 0; k < 4; k++) {
            CHECK.due("count " + k, x.count(0, k), want[k].length);
            for (int i = 0; i < want[k].length; i++) {
                CHECK.due("simplex " + k + ", " + i, x.simplex(0, k, i), want[k][i]);
            }
            CHECK.due("simplex past the last of " + k, x.simplex(0, k, want[k].length), HoleCounter.BAD);
            CHECK.due("simplex -1 of " + k, x.simplex(0, k, -1), HoleCounter.BAD);
            CHECK.due("simplex far out", x.simplex(0, k, Integer.MAX_VALUE), HoleCounter.BAD);
            CHECK.due("simplex far below", x.simplex(0, k, Integer.MIN_VALUE), HoleCounter.BAD);
        }
        for (int c : Outside.COMPLEXES) {
            CHECK.due("count in complex " + c, x.count(c, 0), HoleCounter.BAD);
            CHECK.due("simplex in complex " + c, x.simplex(c, 0, 0), HoleCounter.BAD);
        }
        for (int k : Outside.DIMENSIONS) {
            CHECK.due("count of dimension " + k, x.count(0, k), HoleCounter.BAD);
            CHECK.due("simplex of dimension " + k, x.simplex(0, k, 0), HoleCounter.BAD);
        }
        x.clear(0);
        CHECK.due("simplex after clear", x.simplex(0, 0, 0), HoleCounter.BAD);
    }

    private static void incidence() {
        HoleCounter x = Spaces.with(new int[] {0b10111, 0b1100});
        int[] triangles = {7, 19, 21, 22};
        int[] signs = {-1, 1, -1, 1};
        for (int i = 0; i < triangles.length; i++) {
            CHECK.due("triangle " + i, x.simplex(0, 2, i), triangles[i]);
            CHECK.due("the boundary of the tetrahedron at " + i, x.incidence(0, 3, i, 0), signs[i]);
        }
        CHECK.due("edge 1, 4 is edge 5", x.simplex(0, 1, 5), 18);
        CHECK.due("triangle 0, 1, 4 at 0, 1", x.incidence(0, 2, 0, 1), 1);
        CHECK.due("triangle 0, 1, 4 at 0, 2", x.incidence(0, 2, 1, 1), 0);
        CHECK.due("triangle 0, 1, 4 at 0, 4", x.incidence(0, 2, 4, 1), -1);
        CHECK.due("triangle 0, 1, 4 at 1, 4", x.incidence(0, 2, 5, 1), 1);
        CHECK.due("edge 2, 3 is edge 3", x.simplex(0, 1, 3), 12);
        CHECK.due("edge 2, 3 at 2", x.incidence(0, 1, 2, 3), -1);
        CHECK.due("edge 2, 3 at 3", x.incidence(0, 1, 3, 3), 1);
        CHECK.due("edge 2, 3 at 0", x.incidence(0, 1, 0, 3), 0);
        for (int c : Outside.COMPLEXES) {
            CHECK.due("incidence in complex " + c, x.incidence(c, 1, 0, 0), 0);
        }
        for (int k : new int[] {0, -1, 4, 5, Integer.MIN_VALUE, Integer.MAX_VALUE}) {
            CHECK.due("incidence of dimension " + k, x.incidence(0, k, 0, 0), 0);
        }
        for (int i : new int[] {-1, 5, 24, Integer.MIN_VALUE, Integer.MAX_VALUE}) {
            CHECK.due("incidence at vertex " + i, x.incidence(0, 1, i, 0), 0);
        }
        for (int j : new int[] {-1, 7, 24, Integer.MIN_VALUE, Integer.MAX_VALUE}) {
            CHECK.due("incidence of edge " + j, x.incidence(0, 1, 0, j), 0);
        }
    }

    private static void euler() {
        CHECK.due("a tetrahedron", Spaces.with(new int[] {15}).euler(0), 1);
        CHECK.due("the projective plane", Spaces.with(Spaces.PLANE).euler(0), 1);
        CHECK.due("a torus", Spaces.with(Spaces.TORUS).euler(0), 0);
        CHECK.due("a sphere", Spaces.with(Spaces.OCTAHEDRON).euler(0), 2);
        CHECK.due("a sphere and circles", Spaces.with(Spaces.SPHERE_AND_CIRCLES).euler(0), 0);
        CHECK.due("three points", Spaces.with(new int[] {1, 2, 128}).euler(0), 3);
        HoleCounter x = Spaces.with(Spaces.OCTAHEDRON);
        CHECK.due("the other complex", x.euler(1), 0);
        for (int c : Outside.COMPLEXES) {
            CHECK.due("euler of complex " + c, x.euler(c), 0);
        }
    }
}
