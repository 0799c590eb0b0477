/** The sentences of 'What it is' and 'Terms' that name a boundary case, each by a test of its own. */
public final class LimitsOfTermsTest {
    private static final Check CHECK = new Check("LimitsOfTermsTest");

    public static void main(String[] args) {
        theLastOf512Questions();
        theLastOf512Changes();
        theSameCallUpToTheLast();
        verticesAreZeroToSeven();
        complexesAreZeroAndOne();
        simplicesHaveOneToFourVertices();
        simplicesComeWithAllFaces();
        simplicesStandInTheOrderOfTheirSets();
        atMost24Edges();
        atMost24Triangles();
        theEdgesOfATriangleCount();
        theTrianglesOfATetrahedronCount();
        tetrahedraNeverReach24();
        atFirstNoSimplices();
        theBoundaryHasSigns();
        theBoundaryIsZeroElsewhere();
        aVertexHasNoBoundary();
        nothingAboveTetrahedra();
        theChainZeroIsACycleAndBounds();
        torsionNumbersAreMoreThanOne();
        moduloAPrime();
        atFirstZeroIsKept();
        atFirstTheMapMovesNothing();
        simplicialLooksAtEveryDimension();
        imagesWithTwoTheSameAreZero();
        ranksWithTwoTheSameAreZero();
        imagesHaveTheSignOfTheirOrder();
        rankIsTakenWithFractions();
        productsTakeTheFirstTwoAndTheLastTwo();
        theConstants();
        CHECK.finish();
    }

    private static void theLastOf512Questions() {
        CHECK.under("An object is used for at most 512 calls after it has been made");
        HoleCounter x = new HoleCounter();
        Spaces.addAll(x, 0, Spaces.CUBE);
        Spaces.addAll(x, 1, Spaces.CUBE);
        int calls = 2 * Spaces.CUBE.length;
        for (int turn = 0; calls < 510; turn++) {
            CHECK.due("rank(1), call " + (calls + 1), x.rank(1), 0);
            CHECK.due("products(0), call " + (calls + 2), x.products(0), 0);
            calls += 2;
        }
        CHECK.due("order(1, 2), call 511", x.order(1, 2), 1);
        CHECK.due("rank(2), call 512", x.rank(2), 1);
    }

    private static void theLastOf512Changes() {
        CHECK.under("An object is used for at most 512 calls after it has been made");
        HoleCounter x = new HoleCounter();
        for (int turn = 0; turn < 102; turn++) {
            CHECK.due("add, call " + (5 * turn + 1), x.add(turn % 2, 240), 15);
            CHECK.due("put, call " + (5 * turn + 2), x.put(turn % 2, 240, 9), true);
            CHECK.due("map, call " + (5 * turn + 3), x.map(turn % 8, turn / 8 % 8), true);
            CHECK.due("clear, call " + (5 * turn + 4), x.clear(turn % 2), true);
            CHECK.due("get, call " + (5 * turn + 5), x.get(turn % 2, 240), 0);
        }
        CHECK.due("add, call 511", x.add(1, 15), 15);
        CHECK.due("betti, call 512", x.betti(1, 0), 1);
    }

    private static void theSameCallUpToTheLast() {
        CHECK.under("An object is used for at most 512 calls after it has been made");
        sameCallUpToTheLast(new Call("add", 0, 33), HoleCounter.FULL);
        sameCallUpToTheLast(new Call("add", 1, 15), 0);
        sameCallUpToTheLast(new Call("count", 0, 2), 24);
        sameCallUpToTheLast(new Call("simplex", 0, 2, 23), 224);
        sameCallUpToTheLast(new Call("incidence", 0, 2, 23, 23), 1);
        sameCallUpToTheLast(new Call("euler", 1), 2);
        sameCallUpToTheLast(new Call("betti", 0, 2), 1);
        sameCallUpToTheLast(new Call("torsion", 0, 1, 0), 0);
        sameCallUpToTheLast(new Call("bettiModulo", 1, 2, 13), 1);
        sameCallUpToTheLast(new Call("put", 1, 240, 9), 1);
        sameCallUpToTheLast(new Call("get", 1, 240), 0);
        sameCallUpToTheLast(new Call("boundary", 1, 224), 0);
        sameCallUpToTheLast(new Call("order", 0, 2), 1);
        sameCallUpToTheLast(new Call("map", 7, 7), 1);
        sameCallUpToTheLast(new Call("simplicial"), 1);
        sameCallUpToTheLast(new Call("image", 240), 0);
        sameCallUpToTheLast(new Call("rank", 2), 1);
        sameCallUpToTheLast(new Call("products", 0), 0);
    }

    private static void sameCallUpToTheLast(Call call, long want) {
        HoleCounter x = new HoleCounter();
        Spaces.addAll(x, 0, Spaces.CUBE);
        Spaces.addAll(x, 1, Spaces.CUBE);
        for (int calls = 2 * Spaces.CUBE.length; calls < 512; calls++) {
            CHECK.due(call + ", call " + (calls + 1), call.on(x), want);
        }
    }

    private static void verticesAreZeroToSeven() {
        CHECK.under("VERTICES are 0 .. 7. A SET is the sum of 2^v for its vertices v.");
        HoleCounter x = new HoleCounter();
        for (int v = 0; v < 8; v++) {
            CHECK.due("add vertex " + v, x.add(0, 1 << v), 1);
            CHECK.due("the set of vertex " + v, x.simplex(0, 0, v), 1 << v);
            CHECK.due("map vertex " + v, x.map(v, 7 - v), true);
        }
        CHECK.due("add vertex 8", x.add(0, 1 << 8), HoleCounter.BAD);
        CHECK.due("map vertex 8", x.map(8, 0), false);
        CHECK.due("map vertex -1", x.map(-1, 0), false);
        CHECK.due("vertices", x.count(0, 0), 8);
    }

    private static void complexesAreZeroAndOne() {
        CHECK.under("COMPLEXES are 0 and 1.");
        HoleCounter x = new HoleCounter();
        CHECK.due("add to 0", x.add(0, 1), 1);
        CHECK.due("add to 1", x.add(1, 6), 3);
        CHECK.due("vertices of 0", x.count(0, 0), 1);
        CHECK.due("vertices of 1", x.count(1, 0), 2);
        CHECK.due("add to 2", x.add(2, 1), HoleCounter.BAD);
        CHECK.due("add to -1", x.add(-1, 1), HoleCounter.BAD);
    }

    private static void simplicesHaveOneToFourVertices() {
        CHECK.under("A SIMPLEX of a complex is a set of one to four vertices");
        for (int set = 0; set <= 256; set++) {
            int vertices = Integer.bitCount(set);
            boolean taken = set < 256 && vertices >= 1 && vertices <= 4;
            HoleCounter x = new HoleCounter();
            CHECK.due("add " + set, x.add(1, set), taken ? (1 << vertices) - 1 : HoleCounter.BAD);
            CHECK.due("put " + set, x.put(1, set, 1), taken);
            for (int k = 0; k < 4; k++) {
                boolean largest = taken && k == vertices - 1;
                CHECK.due("the only one of dimension " + k, x.count(1, k) == 1, largest);
                CHECK.due("set " + set + " of dimension " + k, x.simplex(1, k, 0) == set, largest);
            }
        }
    }

    private static void simplicesComeWithAllFaces() {
        CHECK.under("with a simplex a complex has all its FACES");
        for (int set : new int[] {1, 128, 129, 131, 15, 240, 195}) {
            HoleCounter x = Spaces.with(new int[] {set});
            for (int face = 1; face < 256; face++) {
                CHECK.due("is " + face + " in " + set, x.put(0, face, 1), (face & set) == face);
            }
        }
    }

    private static void simplicesStandInTheOrderOfTheirSets() {
        CHECK.under("simplices of a dimension are in the order of their sets, as numbers, and counted 0, 1, ...");
        HoleCounter x = new HoleCounter();
        for (int v = 7; v >= 0; v--) {
            x.add(0, 1 << v);
            CHECK.due("the first one", x.simplex(0, 0, 0), 1 << v);
            CHECK.due("the last one", x.simplex(0, 0, 7 - v), 128);
        }
        HoleCounter cube = Spaces.with(Spaces.CUBE);
        for (int k = 0; k < 4; k++) {
            for (int i = 1; i < cube.count(0, k); i++) {
                CHECK.due("dimension " + k + ", " + i, cube.simplex(0, k, i - 1) < cube.simplex(0, k, i), true);
            }
        }
    }

    /** All edges but 0, 1 and 2, 3 and 4, 5 and 6, 7. */
    private static HoleCounter allButFourEdges() {
        HoleCounter x = new HoleCounter();
        for (int set = 1; set < 256; set++) {
            if (Integer.bitCount(set) == 2 && !hasMissingEdge(set)) {
                x.add(0, set);
            }
        }
        return x;
    }

    private static boolean hasMissingEdge(int set) {
        for (int pair = 3; pair < 256; pair <<= 2) {
            if ((set & pair) == pair) {
                return true;
            }
        }
        return false;
    }

    private static void atMost24Edges() {
        CHECK.under("at most 24 simplices of each dimension");
        HoleCounter x = allButFourEdges();
        CHECK.due("edges", x.count(0, 1), 24);
        for (int pair = 3; pair < 256; pair <<= 2) {
            CHECK.due("edge 25, " + pair, x.add(0, pair), HoleCounter.FULL);
        }
        CHECK.due("an edge that is there", x.add(0, 5), 0);
        CHECK.due("a triangle on the edges", x.add(0, 21), 1);
        CHECK.due("a tetrahedron on the edges", x.add(0, 85), 4);
        CHECK.due("edges still", x.count(0, 1), 24);
        CHECK.due("the other complex has a limit of its own", x.add(1, 3), 3);
    }

    private static void theEdgesOfATriangleCount() {
        CHECK.under("at most 24 simplices of each dimension");
        HoleCounter full = allButFourEdges();
        for (int set = 1; set < 256; set++) {
            if (Integer.bitCount(set) >= 3 && Integer.bitCount(set) <= 4 && hasMissingEdge(set)) {
                CHECK.due("edge 25 comes with " + set, full.add(0, set), HoleCounter.FULL);
            }
        }
        CHECK.due("no triangle came", full.count(0, 2), 0);
        HoleCounter x = new HoleCounter();
        for (int v = 1; v < 7; v++) {
            for (int w = 0; w < v; w++) {
                x.add(0, 1 << v | 1 << w);
            }
        }
        x.add(0, 129);
        CHECK.due("edges", x.count(0, 1), 22);
        CHECK.due("a tetrahedron with edges 23, 24 and 25", x.add(0, 0b10001110), HoleCounter.FULL);
        CHECK.due("a triangle with edges 23 and 24", x.add(0, 0b10000110), 3);
        CHECK.due("edges", x.count(0, 1), 24);
        CHECK.due("a triangle with edge 25", x.add(0, 0b10001001), HoleCounter.FULL);
    }

    /** On seven vertices, where the 21 edges are no limit. */
    private static HoleCounter triangles(int many) {
        HoleCounter x = new HoleCounter();
        for (int set = 1; set < 128; set++) {
            if (Integer.bitCount(set) == 2) {
                x.add(0, set);
            }
        }
        for (int set = 1; set < 128 && x.count(0, 2) < many; set++) {
            if (Integer.bitCount(set) == 3) {
                x.add(0, set);
            }
        }
        return x;
    }

    private static void atMost24Triangles() {
        CHECK.under("at most 24 simplices of each dimension");
        HoleCounter x = triangles(23);
        CHECK.due("triangle 24", x.add(0, 0b1110000), 1);
        CHECK.due("triangle 25", x.add(0, 0b1101000), HoleCounter.FULL);
        CHECK.due("triangle 25 with a vertex and edges", x.add(0, 0b10000011), HoleCounter.FULL);
        CHECK.due("vertices", x.count(0, 0), 7);
        CHECK.due("edges", x.count(0, 1), 21);
        CHECK.due("triangles", x.count(0, 2), 24);
        CHECK.due("a triangle that is there", x.add(0, 7), 0);
        CHECK.due("a tetrahedron on the triangles", x.add(0, 15), 1);
        CHECK.due("a vertex more", x.add(0, 128), 1);
        CHECK.due("edges more", x.add(0, 129), 1);
    }

    private static void theTrianglesOfATetrahedronCount() {
        CHECK.under("at most 24 simplices of each dimension");
        HoleCounter x = triangles(20);
        CHECK.due("a tetrahedron with triangles 21 to 23", x.add(0, 0b1000111), 4);
        CHECK.due("a tetrahedron with triangles 24 and 25", x.add(0, 0b1001011), HoleCounter.FULL);
        CHECK.due("triangles", x.count(0, 2), 23);
        CHECK.due("tetrahedra", x.count(0, 3), 1);
        HoleCounter y = Spaces.with(new int[] {15, 240, 85, 170, 102});
        CHECK.due("up to 24 edges and 24 triangles at once", y.add(0, 153), 7);
        CHECK.due("edges", y.count(0, 1), 24);
        CHECK.due("triangles", y.count(0, 2), 24);
        CHECK.due("four triangles too many on edges that are there", y.add(0, 195), HoleCounter.FULL);
        CHECK.due("one triangle too many on edges that are there", y.add(0, 67), HoleCounter.FULL);
    }

    /** 24 triangles bear 16 tetrahedra at most (the fifteen of six vertices and one more), so only these limit them. */
    private static void tetrahedraNeverReach24() {
        CHECK.under("at most 24 simplices of each dimension");
        HoleCounter x = new HoleCounter();
        for (int set = 1; set < 64; set++) {
            if (Integer.bitCount(set) == 4) {
                CHECK.due("tetrahedron " + set + " is taken", x.add(0, set) > 0, true);
            }
        }
        CHECK.due("tetrahedra", x.count(0, 3), 15);
        CHECK.due("triangles", x.count(0, 2), 20);
        CHECK.due("tetrahedron 16", x.add(0, 0b1000111), 8);
        for (int set = 64; set < 256; set++) {
            if (Integer.bitCount(set) == 4 && set != 0b1000111) {
                CHECK.due("tetrahedron 17, " + set, x.add(0, set), HoleCounter.FULL);
            }
        }
        CHECK.due("tetrahedra", x.count(0, 3), 16);
        CHECK.due("holes of six vertices with all tetrahedra", x.betti(0, 3), 5);
    }

    private static void atFirstNoSimplices() {
        CHECK.under("At first complexes have no simplices.");
        for (int c = 0; c < 2; c++) {
            HoleCounter x = new HoleCounter();
            for (int set = 1; set < 256; set++) {
                CHECK.due("put for " + set, x.put(c, set, 0), false);
            }
            for (int k = 0; k < 4; k++) {
                CHECK.due("count of " + k, x.count(c, k), 0);
            }
        }
    }

    private static void theBoundaryHasSigns() {
        CHECK.under("gives (-1)^i to the simplex without v(i), for each i");
        for (int set = 1; set < 256; set++) {
            int k = Integer.bitCount(set) - 1;
            if (k < 1 || k > 3) {
                continue;
            }
            HoleCounter x = Spaces.with(new int[] {set});
            x.put(0, set, 9);
            int left = set;
            for (int i = 0; i <= k; i++) {
                int face = set - Integer.lowestOneBit(left);
                left -= Integer.lowestOneBit(left);
                int sign = i % 2 == 0 ? 1 : -1;
                CHECK.due("the face that comes at this place", x.simplex(0, k - 1, k - i), face);
                CHECK.due(set + " at " + face, x.incidence(0, k, k - i, 0), sign);
                CHECK.due("9 times " + set + " at " + face, x.boundary(0, face), 9 * sign);
            }
        }
    }

    private static void theBoundaryIsZeroElsewhere() {
        CHECK.under("and 0 to all others");
        HoleCounter x = Spaces.with(new int[] {15, 240, 24});
        for (int i = 0; i < 4; i++) {
            CHECK.due("triangle " + i + " has the vertices of 0 .. 3", x.simplex(0, 2, i) < 16, true);
            CHECK.due("tetrahedron 0 at a triangle of 1", x.incidence(0, 3, 4 + i, 0), 0);
            CHECK.due("tetrahedron 1 at a triangle of 0", x.incidence(0, 3, i, 1), 0);
        }
        CHECK.due("the edge 3, 4 is edge 6", x.simplex(0, 1, 6), 24);
        for (int v = 0; v < 8; v++) {
            CHECK.due("edge 3, 4 at " + v, x.incidence(0, 1, v, 6), v == 3 ? -1 : v == 4 ? 1 : 0);
        }
    }

    private static void aVertexHasNoBoundary() {
        CHECK.under("of a vertex it is 0 (there are no chains of dimension -1");
        HoleCounter x = Spaces.with(new int[] {1, 128});
        CHECK.due("incidence of dimension 0", x.incidence(0, 0, 0, 0), 0);
        CHECK.due("put 9 for vertex 0", x.put(0, 1, 9), true);
        CHECK.due("a chain of vertices is a cycle", x.order(0, 0), 0);
        CHECK.due("boundary at no vertices", x.boundary(0, 0), 0);
        CHECK.due("boundary at vertex 0", x.boundary(0, 1), 0);
        CHECK.due("every vertex is a cycle", x.betti(0, 0), 2);
        CHECK.due("modulo 2 too", x.bettiModulo(0, 0, 2), 2);
    }

    private static void nothingAboveTetrahedra() {
        CHECK.under("there are no chains of dimension .. 4 but 0");
        HoleCounter x = Spaces.with(Spaces.HOLLOW);
        for (int i = 0; i < 5; i++) {
            x.put(0, x.simplex(0, 3, i), i % 2 == 0 ? 1 : -1);
        }
        for (int i = 0; i < 5; i++) {
            CHECK.due("boundary at a tetrahedron", x.boundary(0, x.simplex(0, 3, i)), 0);
            CHECK.due("incidence of dimension 4", x.incidence(0, 4, i, 0), 0);
        }
        CHECK.due("a cycle of tetrahedra bounds nothing", x.order(0, 3), 0);
        CHECK.due("a hole for every cycle", x.betti(0, 3), 1);
        CHECK.due("no torsion", x.torsion(0, 3, 0), 0);
        CHECK.due("a map of it", x.rank(3), HoleCounter.BROKEN);
        Spaces.addAll(x, 1, Spaces.HOLLOW);
        CHECK.due("a map of it to itself", x.rank(3), 1);
    }

    private static void theChainZeroIsACycleAndBounds() {
        CHECK.under("CYCLES are the chains whose boundary is 0, BOUNDING chains are those that are boundaries.");
        for (int[] sets : new int[][] {{}, {1}, {3}, {7}, {15}, Spaces.CUBE, Spaces.PLANE}) {
            HoleCounter x = Spaces.with(sets);
            for (int k = 0; k < 4; k++) {
                CHECK.due("the chain 0 of dimension " + k, x.order(0, k), 1);
            }
        }
    }

    private static void torsionNumbersAreMoreThanOne() {
        CHECK.under("where all d are more than 1");
        for (int[] sets : new int[][] {{3}, {7}, {15}, Spaces.CUBE, Spaces.TORUS}) {
            HoleCounter x = Spaces.with(sets);
            for (int k = 0; k < 4; k++) {
                CHECK.due("d(0) of dimension " + k, x.torsion(0, k, 0), 0);
            }
        }
        HoleCounter plane = Spaces.with(Spaces.PLANE);
        CHECK.due("d(0) of the projective plane", plane.torsion(0, 1, 0), 2);
        CHECK.due("d(1) of the projective plane", plane.torsion(0, 1, 1), 0);
    }

    private static void moduloAPrime() {
        CHECK.under("Modulo a prime p the same with numbers modulo p");
        int[] primes = {2, 3, 5, 7, 11, 13};
        HoleCounter plane = Spaces.with(Spaces.PLANE);
        HoleCounter threefold = Spaces.with(Spaces.THREEFOLD);
        for (int p : primes) {
            CHECK.due("the projective plane, 1, " + p, plane.bettiModulo(0, 1, p), p == 2 ? 1 : 0);
            CHECK.due("the projective plane, 2, " + p, plane.bettiModulo(0, 2, p), p == 2 ? 1 : 0);
            CHECK.due("three times round, 1, " + p, threefold.bettiModulo(0, 1, p), p == 3 ? 1 : 0);
            CHECK.due("three times round, 2, " + p, threefold.bettiModulo(0, 2, p), p == 3 ? 1 : 0);
        }
    }

    private static void atFirstZeroIsKept() {
        CHECK.under("Every complex KEEPS a number for each of its simplices, at first 0");
        for (int c = 0; c < 2; c++) {
            HoleCounter x = new HoleCounter();
            x.add(c, 7);
            for (int set = 1; set < 8; set++) {
                x.put(c, set, 9);
            }
            x.add(c, 15);
            for (int set = 1; set < 16; set++) {
                CHECK.due("after a larger one came, " + set, x.get(c, set), set < 8 ? 9 : 0);
            }
            x.clear(c);
            x.add(c, 15);
            for (int set = 1; set < 16; set++) {
                CHECK.due("anew, " + set, x.get(c, set), 0);
            }
        }
    }

    private static void atFirstTheMapMovesNothing() {
        CHECK.under("THE MAP gives each vertex v of complex 0 a vertex f(v) of complex 1, at first f(v) = v.");
        for (int v = 0; v < 8; v++) {
            HoleCounter x = Spaces.with(new int[] {1 << v});
            x.put(0, 1 << v, v + 1);
            for (int w = 0; w < 8; w++) {
                x.clear(1);
                x.add(1, 1 << w);
                CHECK.due("is f(" + v + ") = " + w, x.simplicial(), v == w);
                CHECK.due("image at " + w, x.image(1 << w), v == w ? v + 1 : 0);
            }
        }
    }

    private static void simplicialLooksAtEveryDimension() {
        CHECK.under("for every simplex of complex 0 the set of the images of its vertices is a simplex of complex 1");
        for (int set = 1; set < 256; set++) {
            if (Integer.bitCount(set) > 4) {
                continue;
            }
            HoleCounter x = Spaces.with(new int[] {set});
            for (int v = 0; v < 8; v++) {
                if ((set >> v & 1) != 0 && set != 1 << v) {
                    x.add(1, set - (1 << v));
                }
            }
            CHECK.due("all parts of " + set + " but itself", x.simplicial(), false);
            CHECK.due("rank", x.rank(0), HoleCounter.BROKEN);
            x.add(1, set);
            CHECK.due("all parts of " + set, x.simplicial(), true);
            CHECK.due("rank", x.rank(0), 1);
        }
    }

    private static void imagesWithTwoTheSameAreZero() {
        CHECK.under("is 0 if two of the f(v(i)) are the same");
        for (int first = 0; first < 4; first++) {
            for (int second = first + 1; second < 4; second++) {
                HoleCounter x = Spaces.with(new int[] {15});
                x.add(1, 15);
                x.put(0, 15, 9);
                x.put(0, 15 - (1 << second), 5);
                CHECK.due("apart", x.image(15), 9);
                x.map(second, first);
                CHECK.due(first + " and " + second + " the same: the tetrahedron", x.image(15), 0);
                CHECK.due("a triangle with one of them", x.image(15 - (1 << second)), 5);
                x.map(first, second);
                x.map(second, second);
                CHECK.due(second + " and " + first + " the same: the tetrahedron", x.image(15), 0);
            }
        }
        HoleCounter y = Spaces.with(new int[] {3});
        y.add(1, 3);
        y.put(0, 3, 7);
        y.map(1, 0);
        CHECK.due("an edge to a vertex, at the vertex", y.image(1), 0);
        CHECK.due("an edge to a vertex, at the edge", y.image(3), 0);
    }

    private static void ranksWithTwoTheSameAreZero() {
        CHECK.under("is 0 if two of the f(v(i)) are the same");
        HoleCounter circle = Spaces.with(Spaces.CIRCLE);
        Spaces.addAll(circle, 1, Spaces.CIRCLE);
        CHECK.due("a circle to itself", circle.rank(1), 1);
        circle.map(2, 1);
        CHECK.due("a circle to an edge", circle.rank(1), 0);
        HoleCounter hollow = Spaces.with(Spaces.HOLLOW);
        Spaces.addAll(hollow, 1, Spaces.HOLLOW);
        CHECK.due("a hollow to itself", hollow.rank(3), 1);
        hollow.map(4, 0);
        CHECK.due("a hollow to a tetrahedron", hollow.rank(3), 0);
        for (int v = 0; v < 5; v++) {
            hollow.map(v, 4);
        }
        CHECK.due("a hollow to a point", hollow.rank(3), 0);
        CHECK.due("a hollow to a point: its one part", hollow.rank(0), 1);
    }

    private static void imagesHaveTheSignOfTheirOrder() {
        CHECK.under("times 1 or -1, as the number of pairs i < j with f(v(i)) > f(v(j)) is even or odd");
        imagesHaveTheSignOfTheirOrder(0, 1, 2, 3);
        imagesHaveTheSignOfTheirOrder(0, 2, 5, 7);
        imagesHaveTheSignOfTheirOrder(4, 5, 6, 7);
    }

    /** All 256 ways to map four vertices to these four places. */
    private static void imagesHaveTheSignOfTheirOrder(int... places) {
        int to = 1 << places[0] | 1 << places[1] | 1 << places[2] | 1 << places[3];
        for (int code = 0; code < 256; code++) {
            int[] f = {places[code & 3], places[code >> 2 & 3], places[code >> 4 & 3], places[code >> 6]};
            HoleCounter x = Spaces.with(new int[] {0b11010010});
            x.add(1, to);
            x.put(0, 0b11010010, 4);
            x.map(1, f[0]);
            x.map(4, f[1]);
            x.map(6, f[2]);
            x.map(7, f[3]);
            CHECK.due("image of 1, 4, 6, 7 at " + to + " by " + code, x.image(to), 4 * signOf(f));
        }
    }

    private static int signOf(int[] f) {
        int odd = 0;
        for (int i = 0; i < f.length; i++) {
            for (int j = i + 1; j < f.length; j++) {
                if (f[i] == f[j]) {
                    return 0;
                }
                odd += f[i] > f[j] ? 1 : 0;
            }
        }
        return odd % 2 == 0 ? 1 : -1;
    }

    private static void rankIsTakenWithFractions() {
        CHECK.under("its RANK is how many of the images, taken with fractions .., are independent");
        HoleCounter line = Spaces.with(new int[] {3, 18, 17});
        Spaces.addAll(line, 1, Spaces.PLANE);
        CHECK.due("a circle that bounds when taken twice", line.rank(1), 0);
        HoleCounter round = Spaces.with(new int[] {3, 6, 12, 24, 48, 33});
        Spaces.addAll(round, 1, Spaces.CIRCLE);
        for (int v = 0; v < 6; v++) {
            round.map(v, v % 3);
        }
        CHECK.due("a circle twice round another", round.rank(1), 1);
    }

    /** Whichever vertices come first, the plane and the torus have a product that is not 0, and spheres have none. */
    private static void productsTakeTheFirstTwoAndTheLastTwo() {
        CHECK.under("gives the triangle with the vertices u < v < w the product of what a gives to u, v and b to v, w");
        for (int turn = 0; turn < 6; turn++) {
            CHECK.due("the plane turned by " + turn, Spaces.with(turned(Spaces.PLANE, turn, 6)).products(0), 1);
        }
        for (int turn = 0; turn < 7; turn++) {
            CHECK.due("the torus turned by " + turn, Spaces.with(turned(Spaces.TORUS, turn, 7)).products(0), 1);
        }
        for (int turn = 0; turn < 8; turn++) {
            CHECK.due("the cube turned by " + turn, Spaces.with(turned(Spaces.CUBE, turn, 8)).products(0), 0);
            CHECK.due("the disc turned by " + turn, Spaces.with(turned(Spaces.THREEFOLD, turn, 8)).products(0), 0);
        }
    }

    private static int[] turned(int[] sets, int turn, int vertices) {
        int[] result = new int[sets.length];
        for (int s = 0; s < sets.length; s++) {
            for (int v = 0; v < vertices; v++) {
                result[s] |= (sets[s] >> v & 1) << (v + turn) % vertices;
            }
        }
        return result;
    }

    private static void theConstants() {
        CHECK.under("BAD = -1, FULL = -2, OPEN = -3, BROKEN = -4");
        HoleCounter x = Spaces.with(Spaces.CUBE);
        x.put(0, 3, 1);
        CHECK.due("An argument is out of its bounds", x.add(0, 0), -1);
        CHECK.due("or there is no such thing", x.simplex(0, 3, 6), -1);
        CHECK.due("There would be more than 24 simplices of a dimension", x.add(0, 33), -2);
        CHECK.due("It is no cycle", x.order(0, 1), -3);
        CHECK.due("The map is not simplicial", x.rank(0), -4);
    }
}
