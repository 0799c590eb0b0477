/** Promises 8 to 10: betti, torsion and bettiModulo. */
public final class HolesTest {
    private static final int[] PRIMES = {2, 3, 5, 7, 11, 13};

    private static final Check CHECK = new Check("HolesTest");

    public static void main(String[] args) {
        space("nothing", new int[] {}, new int[] {0, 0, 0, 0}, 0);
        space("a point", new int[] {128}, new int[] {1, 0, 0, 0}, 0);
        space("eight points", new int[] {1, 2, 4, 8, 16, 32, 64, 128}, new int[] {8, 0, 0, 0}, 0);
        space("a circle", Spaces.CIRCLE, new int[] {1, 1, 0, 0}, 0);
        space("a disc", new int[] {7}, new int[] {1, 0, 0, 0}, 0);
        space("two tetrahedra", new int[] {15, 240}, new int[] {2, 0, 0, 0}, 0);
        space("a sphere", Spaces.OCTAHEDRON, new int[] {1, 0, 1, 0}, 0);
        space("a sphere and circles", Spaces.SPHERE_AND_CIRCLES, new int[] {1, 2, 1, 0}, 0);
        space("a torus", Spaces.TORUS, new int[] {1, 2, 1, 0}, 0);
        space("the projective plane", Spaces.PLANE, new int[] {1, 0, 0, 0}, 2);
        space("a Klein bottle", Spaces.KLEIN, new int[] {1, 1, 0, 0}, 2);
        space("a disc on a circle, three times round", Spaces.THREEFOLD, new int[] {1, 0, 0, 0}, 3);
        space("all edges of six vertices", edgesOfSix(), new int[] {1, 10, 0, 0}, 0);
        space("a hollow of three dimensions", Spaces.HOLLOW, new int[] {1, 0, 0, 1}, 0);
        space("a solid and a hollow tetrahedron", new int[] {15, 112, 176, 208, 224, 24}, new int[] {1, 0, 1, 0}, 0);
        changes();
        refusals();
        CHECK.finish();
    }

    private static int[] edgesOfSix() {
        int[] edges = new int[15];
        int n = 0;
        for (int set = 1; set < 64; set++) {
            if (Integer.bitCount(set) == 2) {
                edges[n++] = set;
            }
        }
        return edges;
    }

    /** All torsion here is one number of dimension 1, and a prime: modulo it there is one hole more in 1 and in 2. */
    private static void space(String name, int[] sets, int[] betti, int torsion) {
        for (int c = 0; c < 2; c++) {
            HoleCounter x = new HoleCounter();
            Spaces.addAll(x, c, sets);
            for (int k = 0; k < 4; k++) {
                CHECK.due(name + ": betti " + k, x.betti(c, k), betti[k]);
                CHECK.due(name + ": betti of the other complex", x.betti(1 - c, k), 0);
                CHECK.due(name + ": torsion " + k, x.torsion(c, k, 0), k == 1 ? torsion : 0);
                CHECK.due(name + ": second torsion " + k, x.torsion(c, k, 1), 0);
                CHECK.due(name + ": far torsion " + k, x.torsion(c, k, Integer.MAX_VALUE), 0);
                for (int p : PRIMES) {
                    int more = p == torsion && (k == 1 || k == 2) ? 1 : 0;
                    CHECK.due(name + ": betti " + k + " modulo " + p, x.bettiModulo(c, k, p), betti[k] + more);
                }
            }
        }
    }

    private static void changes() {
        HoleCounter x = Spaces.with(Spaces.PLANE);
        CHECK.due("before: torsion", x.torsion(0, 1, 0), 2);
        x.add(0, 19);
        CHECK.due("a triangle more: torsion", x.torsion(0, 1, 0), 0);
        CHECK.due("a triangle more: betti", x.betti(0, 1), 0);
        x.add(0, 192);
        CHECK.due("an edge apart", x.betti(0, 0), 2);
        x.put(0, 3, 9);
        CHECK.due("kept numbers make no holes", x.betti(0, 1), 0);
        x.clear(0);
        CHECK.due("cleared", x.betti(0, 0), 0);
    }

    private static void refusals() {
        HoleCounter x = Spaces.with(Spaces.PLANE);
        for (int bad : Outside.COMPLEXES) {
            CHECK.due("betti of complex " + bad, x.betti(bad, 0), HoleCounter.BAD);
            CHECK.due("torsion of complex " + bad, x.torsion(bad, 1, 0), HoleCounter.BAD);
            CHECK.due("bettiModulo of complex " + bad, x.bettiModulo(bad, 0, 2), HoleCounter.BAD);
        }
        for (int bad : Outside.DIMENSIONS) {
            CHECK.due("betti of dimension " + bad, x.betti(0, bad), HoleCounter.BAD);
            CHECK.due("torsion of dimension " + bad, x.torsion(0, bad, 0), HoleCounter.BAD);
            CHECK.due("bettiModulo of dimension " + bad, x.bettiModulo(0, bad, 2), HoleCounter.BAD);
        }
        CHECK.due("torsion -1", x.torsion(0, 1, -1), HoleCounter.BAD);
        CHECK.due("torsion far below", x.torsion(0, 1, Integer.MIN_VALUE), HoleCounter.BAD);
        for (int p = -20; p < 40; p++) {
            boolean taken = p == 2 || p == 3 || p == 5 || p == 7 || p == 11 || p == 13;
            CHECK.due("bettiModulo " + p, x.bettiModulo(0, 0, p), taken ? 1 : HoleCounter.BAD);
        }
        CHECK.due("bettiModulo a large prime", x.bettiModulo(0, 0, Integer.MAX_VALUE), HoleCounter.BAD);
        CHECK.due("bettiModulo far below", x.bettiModulo(0, 0, Integer.MIN_VALUE), HoleCounter.BAD);
    }
}
