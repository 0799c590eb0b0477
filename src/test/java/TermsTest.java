import java.util.ArrayList;
import java.util.List;

/** The sentences of 'Terms' that name no boundary case: how the answers of several calls hang together. */
public final class TermsTest {
    private static final int[] PRIMES = {2, 3, 5, 7, 11, 13};
    private static final int[][] SPACES = {
        Spaces.PLANE, Spaces.TORUS, Spaces.KLEIN, Spaces.THREEFOLD, Spaces.OCTAHEDRON, Spaces.SPHERE_AND_CIRCLES,
        Spaces.CUBE, Spaces.HOLLOW, Spaces.CIRCLE
    };

    private static final Check CHECK = new Check("TermsTest");

    public static void main(String[] args) {
        dimensions();
        for (int[] space : SPACES) {
            boundariesOfChains(space);
            boundariesBound(space);
            sumsOfGroups(space);
        }
        aChainForEachDimension();
        images("a circle twice round", new int[] {3, 6, 12, 24, 48, 33}, Spaces.CIRCLE, 0, 1, 2, 0, 1, 2);
        images("a disc turned over and an edge", new int[] {7, 24}, new int[] {7, 12}, 2, 1, 0, 2, 3);
        images("a torus turned", Spaces.TORUS, Spaces.TORUS, 0, 3, 6, 2, 5, 1, 4);
        images("a plane to itself", Spaces.PLANE, Spaces.PLANE, 0, 1, 2, 3, 4, 5);
        images("a circle on a line of the plane", Spaces.CIRCLE, Spaces.PLANE, 4, 0, 1);
        images("a threefold disc to itself", Spaces.THREEFOLD, Spaces.THREEFOLD, 0, 1, 2, 3, 4, 5, 6, 7);
        images("a sphere with edges pressed", Spaces.OCTAHEDRON, new int[] {7, 11, 13, 14}, 0, 1, 2, 3, 0, 2);
        images("a hollow turned", Spaces.HOLLOW, Spaces.HOLLOW, 1, 2, 3, 4, 0);
        images("a cube upside down", Spaces.CUBE, Spaces.CUBE, 4, 5, 6, 7, 0, 1, 2, 3);
        CHECK.finish();
    }

    private static void dimensions() {
        CHECK.under("The DIMENSION of a simplex is one less than the number of its vertices");
        for (int set = 1; set < 256; set++) {
            int k = Integer.bitCount(set) - 1;
            HoleCounter x = Spaces.with(new int[] {set});
            CHECK.due("how many of dimension " + k + " with " + set, x.count(0, k), k < 4 ? 1 : HoleCounter.BAD);
            CHECK.due("the one of dimension " + k, x.simplex(0, k, 0), k < 4 ? set : HoleCounter.BAD);
            CHECK.due("how many of one more", x.count(0, k + 1), k < 3 ? 0 : HoleCounter.BAD);
        }
    }

    /** A number from -9 to 9 that differs from simplex to simplex. */
    private static int numberFor(int set) {
        return set * 7 % 19 - 9;
    }

    private static List<Integer> simplices(int[] space, int k) {
        HoleCounter x = Spaces.with(space);
        List<Integer> sets = new ArrayList<>();
        for (int i = 0; i < x.count(0, k); i++) {
            sets.add(x.simplex(0, k, i));
        }
        return sets;
    }

    private static void boundariesOfChains(int[] space) {
        CHECK.under("The boundary of a chain is the sum of the boundaries of the simplices, each times its number.");
        for (int k = 1; k < 4; k++) {
            List<Integer> simplices = simplices(space, k);
            List<Integer> faces = simplices(space, k - 1);
            HoleCounter x = Spaces.with(space);
            simplices.forEach(set -> x.put(0, set, numberFor(set)));
            for (int i = 0; i < faces.size(); i++) {
                HoleCounter y = Spaces.with(space);
                int sum = 0;
                for (int j = 0; j < simplices.size(); j++) {
                    sum += y.incidence(0, k, i, j) * numberFor(simplices.get(j));
                }
                CHECK.due("boundary(0, " + faces.get(i) + ")", x.boundary(0, faces.get(i)), sum);
            }
        }
    }

    private static void boundariesBound(int[] space) {
        CHECK.under("BOUNDING chains are those that are boundaries.");
        for (int k = 1; k < 4; k++) {
            for (int set : simplices(space, k)) {
                HoleCounter x = Spaces.with(space);
                keepBoundary(x, set, 9);
                CHECK.due("the order of the boundary of " + set, x.order(0, k - 1), 1);
            }
        }
    }

    /** Complex 0 keeps the boundary of a simplex, a number of times, and 0 else. */
    private static void keepBoundary(HoleCounter x, int set, int times) {
        int sign = times;
        for (int v = 0; v < 8; v++) {
            if ((set >> v & 1) != 0) {
                x.put(0, set & ~(1 << v), sign);
                sign = -sign;
            }
        }
    }

    /** A group of d elements is one hole more modulo p if p divides d, and one more in the next dimension. */
    private static void sumsOfGroups(int[] space) {
        CHECK.under("It is a sum of so many copies of the whole numbers as the BETTI NUMBER says, and of groups");
        HoleCounter x = Spaces.with(space);
        int holes = 0;
        for (int k = 0; k < 4; k++) {
            holes += k % 2 == 0 ? x.betti(0, k) : -x.betti(0, k);
            for (int p : PRIMES) {
                int want = x.betti(0, k) + divided(x, k, p) + divided(x, k - 1, p);
                CHECK.due("bettiModulo(0, " + k + ", " + p + ")", x.bettiModulo(0, k, p), want);
            }
        }
        CHECK.due("euler(0), by holes", x.euler(0), holes);
    }

    private static int divided(HoleCounter x, int k, int p) {
        int many = 0;
        for (int i = 0; k >= 0 && x.torsion(0, k, i) > 0; i++) {
            many += x.torsion(0, k, i) % p == 0 ? 1 : 0;
        }
        return many;
    }

    private static void aChainForEachDimension() {
        CHECK.under("Every complex KEEPS a number for each of its simplices .. (so a chain for each dimension)");
        HoleCounter x = Spaces.with(new int[] {7, 11, 13, 14});
        x.add(1, 15);
        x.put(0, 1, 1);
        keepBoundary(x, 7, 1);
        keepBoundary(x, 15, 1);
        CHECK.due("a point", x.order(0, 0), 0);
        CHECK.due("the rim of a triangle", x.order(0, 1), 1);
        CHECK.due("a hollow", x.order(0, 2), 0);
        CHECK.due("nothing", x.order(0, 3), 1);
        for (int k = 0; k < 4; k++) {
            CHECK.due("nothing of dimension " + k + " in the other complex", x.order(1, k), 1);
        }
    }

    private static void images(String name, int[] from, int[] to, int... f) {
        for (int k = 0; k < 4; k++) {
            imageOfAChain(name, from, to, f, k);
            for (int set : simplices(from, k)) {
                CHECK.under("Images of cycles are cycles, of bounding chains bounding ones");
                HoleCounter x = both(from, to, f);
                keepBoundary(x, set, 1);
                CHECK.due(name + ": the boundary of " + set, k == 0 ? 1 : orderOfImage(x, from, to, k - 1), 1);
            }
        }
        imagesOfLoops(name, from, to, f);
    }

    private static HoleCounter both(int[] from, int[] to, int[] f) {
        HoleCounter x = Spaces.with(from);
        Spaces.addAll(x, 1, to);
        for (int v = 0; v < f.length; v++) {
            x.map(v, f[v]);
        }
        return x;
    }

    private static void imageOfAChain(String name, int[] from, int[] to, int[] f, int k) {
        CHECK.under("The image of a chain is the sum of the images of the simplices, each times its number.");
        HoleCounter whole = both(from, to, f);
        CHECK.due(name + " is simplicial", whole.simplicial(), true);
        simplices(from, k).forEach(set -> whole.put(0, set, numberFor(set)));
        for (int at : simplices(to, k)) {
            HoleCounter single = both(from, to, f);
            int sum = 0;
            for (int set : simplices(from, k)) {
                single.put(0, set, 1);
                sum += single.image(at) * numberFor(set);
                single.put(0, set, 0);
            }
            CHECK.due(name + ": image(" + at + ")", whole.image(at), sum);
        }
    }

    /** The order, in complex 1, of the image of what complex 0 keeps. */
    private static int orderOfImage(HoleCounter x, int[] from, int[] to, int k) {
        for (int set : simplices(to, k)) {
            CHECK.due("the image is kept", x.put(1, set, x.image(set)), true);
        }
        return x.order(1, k);
    }

    /** Cycles of three edges, filled or not: m times the image bounds if m times the cycle does. */
    private static void imagesOfLoops(String name, int[] from, int[] to, int[] f) {
        CHECK.under("Images of cycles are cycles, of bounding chains bounding ones");
        List<Integer> edges = simplices(from, 1);
        for (int set = 1; set < 256; set++) {
            int loop = set;
            long sides = edges.stream().filter(edge -> (edge & loop) == edge).count();
            if (Integer.bitCount(set) == 3 && sides == 3) {
                HoleCounter x = both(from, to, f);
                keepBoundary(x, set, 1);
                int before = x.order(0, 1);
                int after = orderOfImage(x, from, to, 1);
                CHECK.due(name + ": round " + set + " is closed", before >= 0 && after >= 0, true);
                CHECK.due(name + ": round " + set + ", " + before + " times and then " + after,
                        before == 0 || after > 0 && before % after == 0, true);
            }
        }
    }
}
