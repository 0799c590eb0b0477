/** The sentences of promises 8 to 10 that name a boundary case, each by a test of its own. */
public final class LimitsOfHolesTest {
    private static final int[] PRIMES = {2, 3, 5, 7, 11, 13};

    private static final Check CHECK = new Check("LimitsOfHolesTest");

    public static void main(String[] args) {
        bettiOfEmpty();
        bettiOfFull();
        bettiAtItsLargest();
        bettiBad();
        torsionOfEmptyAndFull();
        torsionZeroWhenThereIsNone();
        torsionBadArguments();
        torsionBadPlace();
        bettiModuloOfEmptyAndFull();
        bettiModuloBadArguments();
        bettiModuloOtherNumbers();
        CHECK.finish();
    }

    private static void bettiOfEmpty() {
        CHECK.under("Promise 8: The Betti number of dimension k.");
        HoleCounter x = new HoleCounter();
        for (int k = 0; k < 4; k++) {
            CHECK.due("of an empty complex, " + k, x.betti(0, k), 0);
            CHECK.due("of the other empty complex, " + k, x.betti(1, k), 0);
        }
        x.add(0, 15);
        x.clear(0);
        for (int k = 0; k < 4; k++) {
            CHECK.due("of a cleared complex, " + k, x.betti(0, k), 0);
        }
    }

    private static void bettiOfFull() {
        CHECK.under("Promise 8: The Betti number of dimension k.");
        int[] sphere = {1, 0, 1, 0};
        for (int c = 0; c < 2; c++) {
            HoleCounter x = new HoleCounter();
            Spaces.addAll(x, c, Spaces.CUBE);
            for (int k = 0; k < 4; k++) {
                CHECK.due("of the full surface of a cube, " + k, x.betti(c, k), sphere[k]);
            }
            x.add(c, 33);
            CHECK.due("a refused edge makes no hole", x.betti(c, 1), 0);
        }
    }

    private static void bettiAtItsLargest() {
        CHECK.under("Promise 8: The Betti number of dimension k.");
        CHECK.due("eight points", Spaces.with(new int[] {1, 2, 4, 8, 16, 32, 64, 128}).betti(0, 0), 8);
        HoleCounter edges = new HoleCounter();
        HoleCounter triangles = new HoleCounter();
        HoleCounter tetrahedra = new HoleCounter();
        for (int set = 1; set < 256; set++) {
            int vertices = Integer.bitCount(set);
            if (vertices == 2) {
                edges.add(1, set);
            }
            if (vertices == 3 && set < 128) {
                triangles.add(1, set);
            }
            if (vertices == 4 && set < 64) {
                tetrahedra.add(1, set);
            }
        }
        CHECK.due("24 edges on eight vertices", edges.betti(1, 1), 17);
        CHECK.due("all triangles of six vertices and four more", triangles.betti(1, 2), 11);
        CHECK.due("all tetrahedra of six vertices", tetrahedra.betti(1, 3), 5);
    }

    private static void bettiBad() {
        CHECK.under("Promise 8: BAD when c is not 0 or 1 or k not 0 .. 3.");
        HoleCounter x = Spaces.with(new int[] {1});
        x.add(1, 1);
        for (int c : Outside.COMPLEXES) {
            for (int k = 0; k < 4; k++) {
                CHECK.due("betti(" + c + ", " + k + ")", x.betti(c, k), HoleCounter.BAD);
            }
        }
        for (int k : Outside.DIMENSIONS) {
            CHECK.due("betti(0, " + k + ")", x.betti(0, k), HoleCounter.BAD);
            CHECK.due("betti(1, " + k + ")", x.betti(1, k), HoleCounter.BAD);
            CHECK.due("of an empty complex", new HoleCounter().betti(1, k), HoleCounter.BAD);
        }
        CHECK.due("betti(0, 0)", x.betti(0, 0), 1);
        CHECK.due("betti(1, 3)", x.betti(1, 3), 0);
    }

    private static void torsionOfEmptyAndFull() {
        CHECK.under("Promise 9: Torsion number d(i) of dimension k; 0 when there is none.");
        HoleCounter x = new HoleCounter();
        Spaces.addAll(x, 1, Spaces.CUBE);
        for (int k = 0; k < 4; k++) {
            for (int i : new int[] {0, 1, 23, 24, Integer.MAX_VALUE}) {
                CHECK.due("of an empty complex, " + k + ", " + i, x.torsion(0, k, i), 0);
                CHECK.due("of a full one, " + k + ", " + i, x.torsion(1, k, i), 0);
            }
        }
    }

    private static void torsionZeroWhenThereIsNone() {
        CHECK.under("Promise 9: 0 when there is none.");
        int[][] spaces = {Spaces.PLANE, Spaces.KLEIN, Spaces.THREEFOLD};
        int[] numbers = {2, 2, 3};
        for (int s = 0; s < spaces.length; s++) {
            for (int c = 0; c < 2; c++) {
                HoleCounter x = new HoleCounter();
                Spaces.addAll(x, c, spaces[s]);
                CHECK.due("the last there is", x.torsion(c, 1, 0), numbers[s]);
                for (int i : new int[] {1, 2, 23, 24, 25, 48, Integer.MAX_VALUE - 1, Integer.MAX_VALUE}) {
                    CHECK.due("the first there is not, " + i, x.torsion(c, 1, i), 0);
                }
                for (int k : new int[] {0, 2, 3}) {
                    CHECK.due("of another dimension, " + k, x.torsion(c, k, 0), 0);
                }
                CHECK.due("of the other complex", x.torsion(1 - c, 1, 0), 0);
            }
        }
    }

    private static void torsionBadArguments() {
        CHECK.under("Promise 9: BAD when c is not 0 or 1, k not 0 .. 3");
        HoleCounter x = Spaces.with(Spaces.PLANE);
        for (int c : Outside.COMPLEXES) {
            for (int k = 0; k < 4; k++) {
                CHECK.due("torsion(" + c + ", " + k + ", 0)", x.torsion(c, k, 0), HoleCounter.BAD);
            }
        }
        for (int k : Outside.DIMENSIONS) {
            CHECK.due("torsion(0, " + k + ", 0)", x.torsion(0, k, 0), HoleCounter.BAD);
            CHECK.due("torsion(1, " + k + ", 0), which is empty", x.torsion(1, k, 0), HoleCounter.BAD);
            CHECK.due("a far place of it", x.torsion(0, k, Integer.MAX_VALUE), HoleCounter.BAD);
        }
    }

    private static void torsionBadPlace() {
        CHECK.under("Promise 9: BAD when .. i less than 0");
        HoleCounter x = Spaces.with(Spaces.PLANE);
        for (int k = 0; k < 4; k++) {
            for (int i : new int[] {-1, -2, -24, Integer.MIN_VALUE, Integer.MIN_VALUE + 1}) {
                CHECK.due("torsion(0, " + k + ", " + i + ")", x.torsion(0, k, i), HoleCounter.BAD);
                CHECK.due("torsion(1, " + k + ", " + i + "), which is empty", x.torsion(1, k, i), HoleCounter.BAD);
            }
        }
        CHECK.due("torsion(0, 1, 0)", x.torsion(0, 1, 0), 2);
    }

    private static void bettiModuloOfEmptyAndFull() {
        CHECK.under("Promise 10: The Betti number of dimension k modulo p.");
        int[] sphere = {1, 0, 1, 0};
        HoleCounter x = new HoleCounter();
        Spaces.addAll(x, 1, Spaces.CUBE);
        for (int k = 0; k < 4; k++) {
            for (int p : PRIMES) {
                CHECK.due("of an empty complex, " + k + ", " + p, x.bettiModulo(0, k, p), 0);
                CHECK.due("of a full one, " + k + ", " + p, x.bettiModulo(1, k, p), sphere[k]);
            }
        }
    }

    private static void bettiModuloBadArguments() {
        CHECK.under("Promise 10: BAD when c is not 0 or 1, k not 0 .. 3");
        HoleCounter x = Spaces.with(Spaces.PLANE);
        for (int p : PRIMES) {
            for (int c : Outside.COMPLEXES) {
                CHECK.due("bettiModulo(" + c + ", 1, " + p + ")", x.bettiModulo(c, 1, p), HoleCounter.BAD);
            }
            for (int k : Outside.DIMENSIONS) {
                CHECK.due("bettiModulo(0, " + k + ", " + p + ")", x.bettiModulo(0, k, p), HoleCounter.BAD);
                CHECK.due("bettiModulo(1, " + k + ", " + p + ")", x.bettiModulo(1, k, p), HoleCounter.BAD);
            }
        }
    }

    private static void bettiModuloOtherNumbers() {
        CHECK.under("Promise 10: BAD when .. p is none of 2, 3, 5, 7, 11, 13.");
        HoleCounter x = Spaces.with(Spaces.PLANE);
        for (int p = -30; p <= 30; p++) {
            boolean taken = p == 2 || p == 3 || p == 5 || p == 7 || p == 11 || p == 13;
            CHECK.due("bettiModulo(0, 0, " + p + ")", x.bettiModulo(0, 0, p), taken ? 1 : HoleCounter.BAD);
            CHECK.due("bettiModulo(1, 0, " + p + "), which is empty", x.bettiModulo(1, 0, p), taken ? 0 : HoleCounter.BAD);
        }
        for (int p : new int[] {Integer.MIN_VALUE, Integer.MIN_VALUE + 2, 65537, 2147483629, Integer.MAX_VALUE}) {
            CHECK.due("bettiModulo(0, 0, " + p + ")", x.bettiModulo(0, 0, p), HoleCounter.BAD);
        }
    }
}
