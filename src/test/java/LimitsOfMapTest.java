/** The sentences of promises 15 to 18 that name a boundary case, each by a test of its own. */
public final class LimitsOfMapTest {
    private static final Check CHECK = new Check("LimitsOfMapTest");

    public static void main(String[] args) {
        mapEveryVertexToEveryVertex();
        mapBadVertex();
        mapBadImage();
        mapWithoutSimplices();
        simplicialOfEmpty();
        simplicialOfFull();
        simplicialWhenComplexesChange();
        imageAtItsLargest();
        imageOfFull();
        imageZeroWithoutSimplex();
        imageZeroWhenNotSimplicial();
        imageOfEmpty();
        rankOfEmpty();
        rankOfFull();
        rankBad();
        rankBroken();
        rankBadBeforeBroken();
        CHECK.finish();
    }

    private static HoleCounter both(int[] first, int[] second) {
        HoleCounter x = Spaces.with(first);
        Spaces.addAll(x, 1, second);
        return x;
    }

    private static void mapEveryVertexToEveryVertex() {
        CHECK.under("Promise 15: f(v) becomes w: true");
        for (int v = 0; v < 8; v++) {
            HoleCounter x = Spaces.with(new int[] {1 << v});
            x.put(0, 1 << v, 9);
            Spaces.addAll(x, 1, new int[] {1, 2, 4, 8, 16, 32, 64, 128});
            for (int w = 0; w < 8; w++) {
                CHECK.due("map(" + v + ", " + w + ")", x.map(v, w), true);
                for (int at = 0; at < 8; at++) {
                    CHECK.due("image at " + at, x.image(1 << at), at == w ? 9 : 0);
                }
            }
        }
    }

    private static HoleCounter eightPoints() {
        int[] points = {1, 2, 4, 8, 16, 32, 64, 128};
        HoleCounter x = both(points, points);
        for (int v = 0; v < 8; v++) {
            x.put(0, 1 << v, v + 1);
        }
        return x;
    }

    private static void dueUnmoved(HoleCounter x) {
        for (int v = 0; v < 8; v++) {
            CHECK.due("f(" + v + ") stays", x.image(1 << v), v + 1);
        }
    }

    private static void mapBadVertex() {
        CHECK.under("Promise 15: false when v .. is not 0 .. 7");
        HoleCounter x = eightPoints();
        for (int v : new int[] {-1, -8, 8, 9, 16, 32, Integer.MIN_VALUE, Integer.MAX_VALUE}) {
            for (int w = 0; w < 8; w += 7) {
                CHECK.due("map(" + v + ", " + w + ")", x.map(v, w), false);
                dueUnmoved(x);
            }
        }
    }

    private static void mapBadImage() {
        CHECK.under("Promise 15: false when .. w is not 0 .. 7");
        HoleCounter x = eightPoints();
        for (int w : new int[] {-1, -8, 8, 9, 16, 32, Integer.MIN_VALUE, Integer.MAX_VALUE}) {
            for (int v = 0; v < 8; v += 7) {
                CHECK.due("map(" + v + ", " + w + ")", x.map(v, w), false);
                dueUnmoved(x);
            }
        }
        for (int bad : Outside.VERTICES) {
            CHECK.due("map(" + bad + ", " + bad + ")", x.map(bad, bad), false);
        }
        dueUnmoved(x);
    }

    private static void mapWithoutSimplices() {
        CHECK.under("Promise 15: f(v) becomes w: true");
        HoleCounter x = new HoleCounter();
        CHECK.due("vertices that neither complex has", x.map(7, 0), true);
        x.add(0, 128);
        x.add(1, 1);
        CHECK.due("count when they come", x.simplicial(), true);
        x.map(7, 7);
        CHECK.due("back to itself", x.simplicial(), false);
    }

    private static void simplicialOfEmpty() {
        CHECK.under("Promise 16: Whether the map is simplicial.");
        HoleCounter x = new HoleCounter();
        CHECK.due("nothing to nothing", x.simplicial(), true);
        x.map(0, 7);
        CHECK.due("nothing to nothing by another map", x.simplicial(), true);
        x.add(1, 15);
        CHECK.due("nothing to a tetrahedron", x.simplicial(), true);
        x.clear(1);
        x.add(0, 2);
        CHECK.due("a point to nothing", x.simplicial(), false);
        x.clear(0);
        CHECK.due("nothing to nothing again", x.simplicial(), true);
    }

    private static void simplicialOfFull() {
        CHECK.under("Promise 16: Whether the map is simplicial.");
        HoleCounter x = both(Spaces.CUBE, Spaces.CUBE);
        CHECK.due("the cube to itself", x.simplicial(), true);
        for (int v = 0; v < 8; v++) {
            x.map(v, v ^ 4);
        }
        CHECK.due("turned over", x.simplicial(), true);
        x.map(7, 2);
        CHECK.due("one vertex astray, 0, 7 goes to 4, 2", x.simplicial(), false);
        for (int v = 0; v < 8; v++) {
            x.map(v, 7);
        }
        CHECK.due("all to one vertex", x.simplicial(), true);
        for (int v = 0; v < 8; v++) {
            x.map(v, v < 4 ? 2 : 7);
        }
        CHECK.due("two sides to two vertices without an edge", x.simplicial(), false);
        for (int v = 0; v < 8; v++) {
            x.map(v, v < 4 ? 6 : 7);
        }
        CHECK.due("two sides to two vertices with an edge", x.simplicial(), true);
    }

    private static void simplicialWhenComplexesChange() {
        CHECK.under("Promise 16: Whether the map is simplicial.");
        HoleCounter x = both(new int[] {7}, new int[] {7});
        CHECK.due("at first", x.simplicial(), true);
        x.add(0, 8);
        CHECK.due("complex 0 grew", x.simplicial(), false);
        x.add(1, 8);
        CHECK.due("complex 1 grew", x.simplicial(), true);
        x.clear(1);
        CHECK.due("complex 1 is cleared", x.simplicial(), false);
        x.clear(0);
        CHECK.due("complex 0 is cleared", x.simplicial(), true);
    }

    private static void imageAtItsLargest() {
        CHECK.under("Promise 17: What the image of the chain that complex 0 keeps .. gives to that simplex");
        HoleCounter x = eightPoints();
        for (int v = 0; v < 8; v++) {
            x.put(0, 1 << v, 9);
            x.map(v, 7);
        }
        CHECK.due("eight points of 9 on one", x.image(128), 72);
        CHECK.due("none on another", x.image(1), 0);
        HoleCounter y = both(new int[] {}, new int[] {192});
        for (int v = 0; v < 8; v++) {
            y.map(v, v < 4 ? 7 : 6);
            for (int w = 4; w < 8 && v < 4; w++) {
                y.add(0, 1 << v | 1 << w);
                y.put(0, 1 << v | 1 << w, 9);
            }
        }
        CHECK.due("sixteen edges of 9 on one, turned round", y.image(192), -144);
        CHECK.due("at a vertex, where 0 is kept", y.image(64), 0);
    }

    private static void imageOfFull() {
        CHECK.under("Promise 17: What the image of the chain that complex 0 keeps .. gives to that simplex");
        HoleCounter x = both(Spaces.CUBE, Spaces.CUBE);
        x.put(0, 1, 1);
        x.put(0, 192, 2);
        x.put(0, 224, 3);
        x.put(0, 240, 4);
        x.put(1, 240, 9);
        for (int k = 0; k < 4; k++) {
            for (int i = 0; i < x.count(1, k); i++) {
                int set = x.simplex(1, k, i);
                CHECK.due("image at " + set + " is what is kept", x.image(set), x.get(0, set));
            }
        }
        for (int v = 0; v < 8; v++) {
            x.map(v, v ^ 4);
        }
        CHECK.due("vertex 0 at 4", x.image(16), 1);
        CHECK.due("the last edge at 2, 3", x.image(12), 2);
        CHECK.due("the last triangle at 1, 2, 3", x.image(14), 3);
        CHECK.due("the last tetrahedron at 0 .. 3", x.image(15), 4);
        CHECK.due("where nothing goes", x.image(240), 0);
    }

    private static void imageZeroWithoutSimplex() {
        CHECK.under("Promise 17: 0 when set is no simplex of complex 1");
        HoleCounter x = both(new int[] {15}, new int[] {15});
        for (int set = 1; set < 16; set++) {
            x.put(0, set, 9);
        }
        CHECK.due("image(15)", x.image(15), 9);
        for (int set : new int[] {0, -1, -241, 16, 31, 240, 255, 256, 257, 271, 1 << 16 | 15, Integer.MIN_VALUE,
            Integer.MIN_VALUE + 15, Integer.MAX_VALUE}) {
            CHECK.due("image(" + set + ")", x.image(set), 0);
        }
        HoleCounter y = both(new int[] {3}, new int[] {4});
        y.put(0, 1, 9);
        y.map(0, 2);
        y.map(1, 2);
        CHECK.due("a simplex of complex 0 alone", y.image(1), 0);
        CHECK.due("a simplex of complex 1", y.image(4), 9);
    }

    private static void imageZeroWhenNotSimplicial() {
        CHECK.under("Promise 17: 0 when .. the map is not simplicial");
        HoleCounter x = both(new int[] {7}, new int[] {7});
        for (int set = 1; set < 8; set++) {
            x.put(0, set, 9);
        }
        x.add(0, 128);
        for (int set = 1; set < 8; set++) {
            CHECK.due("image(" + set + ") with vertex 7 astray", x.image(set), 0);
        }
        x.map(7, 0);
        for (int set = 1; set < 8; set++) {
            CHECK.due("image(" + set + ") with vertex 7 at 0", x.image(set), 9);
        }
        x.add(0, 15);
        CHECK.due("image(7) with a tetrahedron astray", x.image(7), 0);
    }

    private static void imageOfEmpty() {
        CHECK.under("Promise 17: 0 when set is no simplex of complex 1 or the map is not simplicial");
        HoleCounter x = new HoleCounter();
        for (int set = 0; set <= 256; set++) {
            CHECK.due("nothing to nothing, image(" + set + ")", x.image(set), 0);
        }
        x.add(1, 15);
        CHECK.due("nothing to a tetrahedron", x.image(15), 0);
        x.clear(1);
        x.add(0, 15);
        x.put(0, 15, 9);
        CHECK.due("a tetrahedron to nothing", x.image(15), 0);
    }

    private static void rankOfEmpty() {
        CHECK.under("Promise 18: The rank of the map on H(k).");
        HoleCounter x = new HoleCounter();
        for (int k = 0; k < 4; k++) {
            CHECK.due("nothing to nothing, " + k, x.rank(k), 0);
        }
        Spaces.addAll(x, 1, Spaces.CUBE);
        for (int k = 0; k < 4; k++) {
            CHECK.due("nothing to a sphere, " + k, x.rank(k), 0);
        }
    }

    private static void rankOfFull() {
        CHECK.under("Promise 18: The rank of the map on H(k).");
        int[] whole = {1, 0, 1, 0};
        int[] point = {1, 0, 0, 0};
        HoleCounter x = both(Spaces.CUBE, Spaces.CUBE);
        for (int k = 0; k < 4; k++) {
            CHECK.due("the sphere to itself, " + k, x.rank(k), whole[k]);
        }
        for (int v = 0; v < 8; v++) {
            x.map(v, v ^ 4);
        }
        for (int k = 0; k < 4; k++) {
            CHECK.due("the sphere turned over, " + k, x.rank(k), whole[k]);
        }
        for (int v = 0; v < 8; v++) {
            x.map(v, 7);
        }
        for (int k = 0; k < 4; k++) {
            CHECK.due("the sphere to a point, " + k, x.rank(k), point[k]);
        }
        HoleCounter y = both(Spaces.HOLLOW, Spaces.HOLLOW);
        CHECK.due("tetrahedra round a hollow", y.rank(3), 1);
        CHECK.due("eight points to eight", eightPoints().rank(0), 8);
    }

    private static void rankBad() {
        CHECK.under("Promise 18: BAD when k is not 0 .. 3");
        for (int[] sets : new int[][] {{}, {1}, Spaces.CUBE}) {
            HoleCounter x = both(sets, sets);
            for (int k : Outside.DIMENSIONS) {
                CHECK.due("rank(" + k + ")", x.rank(k), HoleCounter.BAD);
            }
            CHECK.due("rank(0)", x.rank(0), sets.length == 0 ? 0 : 1);
            CHECK.due("rank(3)", x.rank(3), 0);
        }
    }

    private static void rankBroken() {
        CHECK.under("Promise 18: BROKEN");
        HoleCounter x = both(Spaces.CUBE, Spaces.CUBE);
        x.map(7, 2);
        for (int k = 0; k < 4; k++) {
            CHECK.due("one vertex astray, " + k, x.rank(k), HoleCounter.BROKEN);
        }
        x.map(7, 7);
        CHECK.due("back again", x.rank(2), 1);
        x.clear(1);
        for (int k = 0; k < 4; k++) {
            CHECK.due("a sphere to nothing, " + k, x.rank(k), HoleCounter.BROKEN);
        }
        x.clear(0);
        CHECK.due("nothing to nothing", x.rank(2), 0);
    }

    private static void rankBadBeforeBroken() {
        CHECK.under("refusals are tested in the order in which they are named");
        HoleCounter x = Spaces.with(new int[] {1});
        CHECK.due("the map is not simplicial", x.simplicial(), false);
        for (int k : Outside.DIMENSIONS) {
            CHECK.due("rank(" + k + ")", x.rank(k), HoleCounter.BAD);
        }
        for (int k = 0; k < 4; k++) {
            CHECK.due("rank(" + k + ")", x.rank(k), HoleCounter.BROKEN);
        }
    }
}
