/** Promises 15 to 18: map, simplicial, image and rank. */
public final class MapTest {
    private static final Check CHECK = new Check("MapTest");

    public static void main(String[] args) {
        mapRefusals();
        simplicial();
        imageSigns();
        imageSums();
        imageRefusals();
        rankOfParts();
        rankRoundCircles();
        rankOfTori();
        rankWithFractions();
        rankOfHollows();
        rankRefusals();
        CHECK.finish();
    }

    private static HoleCounter both(int[] first, int[] second) {
        HoleCounter x = Spaces.with(first);
        Spaces.addAll(x, 1, second);
        return x;
    }

    private static void mapAll(HoleCounter x, int... images) {
        for (int v = 0; v < images.length; v++) {
            CHECK.due("map " + v + " to " + images[v], x.map(v, images[v]), true);
        }
    }

    private static void mapRefusals() {
        HoleCounter x = both(new int[] {1, 128}, new int[] {1, 128});
        for (int bad : Outside.VERTICES) {
            CHECK.due("map of " + bad, x.map(bad, 1), false);
            CHECK.due("map to " + bad, x.map(0, bad), false);
            CHECK.due("map of and to " + bad, x.map(bad, bad), false);
        }
        CHECK.due("refused: f stays", x.simplicial(), true);
        CHECK.due("map 7 to 0", x.map(7, 0), true);
        CHECK.due("rank", x.rank(0), 1);
        CHECK.due("map 0 to 7", x.map(0, 7), true);
        CHECK.due("rank", x.rank(0), 2);
        CHECK.due("a vertex that complex 0 does not have", x.map(3, 5), true);
        CHECK.due("does not count", x.simplicial(), true);
        x.add(0, 8);
        CHECK.due("but later it does", x.simplicial(), false);
    }

    private static void simplicial() {
        HoleCounter x = new HoleCounter();
        CHECK.due("nothing to nothing", x.simplicial(), true);
        x.add(1, 7);
        CHECK.due("nothing to a triangle", x.simplicial(), true);
        x.add(0, 15);
        CHECK.due("a vertex too many", x.simplicial(), false);
        mapAll(x, 0, 1, 2, 2);
        CHECK.due("a solid pressed flat", x.simplicial(), true);
        mapAll(x, 5, 5, 5, 5);
        CHECK.due("to a point that is not there", x.simplicial(), false);
        mapAll(x, 1, 1, 1, 1);
        CHECK.due("to a point that is there", x.simplicial(), true);
        HoleCounter y = both(new int[] {7}, Spaces.CIRCLE);
        CHECK.due("a triangle to its rim", y.simplicial(), false);
        y.add(1, 7);
        CHECK.due("a triangle to itself", y.simplicial(), true);
        y.clear(1);
        CHECK.due("a triangle to nothing", y.simplicial(), false);
        y.clear(0);
        CHECK.due("nothing to nothing again", y.simplicial(), true);
    }

    /** All ways to set out four vertices, each with the sign of its order. */
    private static void imageSigns() {
        for (int code = 0; code < 256; code++) {
            HoleCounter x = both(new int[] {15}, new int[] {15});
            x.put(0, 15, 4);
            x.put(0, 7, 3);
            int[] f = {code & 3, code >> 2 & 3, code >> 4 & 3, code >> 6};
            mapAll(x, f);
            CHECK.due("image of the solid by " + code, x.image(15), 4 * sign(f, 4));
            int set = 1 << f[0] | 1 << f[1] | 1 << f[2];
            if (Integer.bitCount(set) == 3) {
                CHECK.due("image of the triangle by " + code, x.image(set), 3 * sign(f, 3));
            }
        }
    }

    private static int sign(int[] f, int n) {
        int sign = 1;
        for (int i = 0; i < n; i++) {
            for (int j = i + 1; j < n; j++) {
                sign *= Integer.compare(f[j], f[i]);
            }
        }
        return sign;
    }

    private static void imageSums() {
        HoleCounter x = both(new int[] {3, 6, 12, 24, 48, 33}, Spaces.CIRCLE);
        mapAll(x, 0, 1, 2, 0, 1, 2);
        for (int edge : new int[] {3, 6, 12, 24, 48}) {
            x.put(0, edge, 9);
        }
        x.put(0, 33, -9);
        x.put(0, 1, 1);
        x.put(0, 8, 5);
        x.put(1, 3, 7);
        CHECK.due("twice round: 0, 1", x.image(3), 18);
        CHECK.due("twice round: 0, 2", x.image(5), -18);
        CHECK.due("twice round: 1, 2", x.image(6), 18);
        CHECK.due("two points on one", x.image(1), 6);
        CHECK.due("no points on it", x.image(2), 0);
        mapAll(x, 0, 1, 0, 1, 0, 1);
        CHECK.due("to and fro", x.image(3), 0);
        mapAll(x, 0, 0, 0, 0, 0, 0);
        CHECK.due("edges to a point", x.image(1), 6);
        CHECK.due("edges to a point are 0", x.image(3), 0);
    }

    private static void imageRefusals() {
        HoleCounter x = both(new int[] {3}, new int[] {3});
        x.put(0, 3, 2);
        CHECK.due("image", x.image(3), 2);
        for (int set : new int[] {0, -1, 4, 5, 256, 259, Integer.MIN_VALUE, Integer.MAX_VALUE}) {
            CHECK.due("image at " + set, x.image(set), 0);
        }
        x.add(0, 8);
        CHECK.due("not simplicial", x.image(3), 0);
        x.map(3, 0);
        CHECK.due("simplicial again", x.image(3), 2);
    }

    private static void rankOfParts() {
        HoleCounter x = both(new int[] {3, 12, 48, 64}, new int[] {3, 12, 16, 32, 64, 128});
        CHECK.due("48 goes to no edge", x.rank(0), HoleCounter.BROKEN);
        x.map(5, 4);
        CHECK.due("four parts to four", x.rank(0), 4);
        mapAll(x, 0, 1, 1, 0, 1, 0, 7);
        CHECK.due("four parts to two", x.rank(0), 2);
        CHECK.due("no holes of edges", x.rank(1), 0);
    }

    private static void rankRoundCircles() {
        HoleCounter x = both(new int[] {3, 6, 12, 24, 48, 33}, Spaces.CIRCLE);
        mapAll(x, 0, 1, 2, 0, 1, 2);
        CHECK.due("twice round", x.rank(1), 1);
        CHECK.due("twice round: parts", x.rank(0), 1);
        mapAll(x, 0, 1, 2, 2, 1, 0);
        CHECK.due("there and back", x.rank(1), 0);
        mapAll(x, 0, 0, 1, 1, 2, 2);
        CHECK.due("once round with halts", x.rank(1), 1);
        x.add(1, 7);
        CHECK.due("round a disc", x.rank(1), 0);
    }

    private static void rankOfTori() {
        HoleCounter x = both(Spaces.TORUS, Spaces.TORUS);
        int[] want = {1, 2, 1, 0};
        for (int k = 0; k < 4; k++) {
            CHECK.due("the torus to itself " + k, x.rank(k), want[k]);
        }
        mapAll(x, 0, 3, 6, 2, 5, 1, 4);
        CHECK.due("v -> 3 v turns one kind of triangle to the other", x.simplicial(), true);
        for (int k = 0; k < 4; k++) {
            CHECK.due("the torus turned " + k, x.rank(k), want[k]);
        }
        HoleCounter y = both(Spaces.CIRCLE, Spaces.TORUS);
        mapAll(y, 0, 1, 2);
        CHECK.due("0, 1, 2 is no triangle of the torus", y.simplicial(), true);
        CHECK.due("a circle in the torus", y.rank(1), 1);
        mapAll(y, 0, 1, 3);
        CHECK.due("the rim of a triangle", y.rank(1), 0);
    }

    /** The rank is over the fractions: a cycle with a multiple that bounds is no hole there. */
    private static void rankWithFractions() {
        HoleCounter x = both(new int[] {3, 18, 17}, Spaces.PLANE);
        CHECK.due("a line of the projective plane: simplicial", x.simplicial(), true);
        CHECK.due("a line of the projective plane", x.rank(1), 0);
        HoleCounter y = both(Spaces.CIRCLE, Spaces.THREEFOLD);
        CHECK.due("the circle that is filled three times", y.rank(1), 0);
        HoleCounter z = both(Spaces.PLANE, Spaces.PLANE);
        int[] want = {1, 0, 0, 0};
        for (int k = 0; k < 4; k++) {
            CHECK.due("the projective plane to itself " + k, z.rank(k), want[k]);
        }
        HoleCounter klein = both(Spaces.KLEIN, Spaces.KLEIN);
        CHECK.due("the Klein bottle to itself", klein.rank(1), 1);
        CHECK.due("the Klein bottle to itself 2", klein.rank(2), 0);
    }

    private static void rankOfHollows() {
        HoleCounter x = both(Spaces.HOLLOW, Spaces.HOLLOW);
        CHECK.due("a hollow of three dimensions", x.rank(3), 1);
        CHECK.due("a hollow of three dimensions: 2", x.rank(2), 0);
        mapAll(x, 1, 2, 3, 4, 0);
        CHECK.due("turned", x.rank(3), 1);
        mapAll(x, 1, 2, 3, 4, 4);
        CHECK.due("pressed", x.rank(3), 0);
        HoleCounter y = both(Spaces.OCTAHEDRON, new int[] {7, 11, 13, 14});
        mapAll(y, 0, 1, 2, 3, 0, 2);
        CHECK.due("a sphere with two edges pressed to points", y.rank(2), 1);
        mapAll(y, 0, 1, 2, 3, 3, 2);
        CHECK.due("a sphere pressed flat: simplicial", y.simplicial(), true);
        CHECK.due("a sphere pressed flat", y.rank(2), 0);
        mapAll(y, 0, 1, 2, 3, 0, 2);
        y.add(1, 15);
        CHECK.due("a sphere round a solid", y.rank(2), 0);
    }

    private static void rankRefusals() {
        HoleCounter x = both(new int[] {3}, new int[] {1});
        for (int k : Outside.DIMENSIONS) {
            CHECK.due("BAD goes before BROKEN, dimension " + k, x.rank(k), HoleCounter.BAD);
        }
        for (int k = 0; k < 4; k++) {
            CHECK.due("not simplicial", x.rank(k), HoleCounter.BROKEN);
        }
        x.map(1, 0);
        CHECK.due("simplicial", x.rank(0), 1);
        CHECK.due("dimension 4 of a map that is simplicial", x.rank(4), HoleCounter.BAD);
    }
}
