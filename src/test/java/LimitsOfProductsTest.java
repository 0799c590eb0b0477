/** The sentences of promise 19 that name a boundary case, each by a test of its own. */
public final class LimitsOfProductsTest {
    private static final Check CHECK = new Check("LimitsOfProductsTest");

    public static void main(String[] args) {
        ofEmpty();
        ofFull();
        withoutTriangles();
        ofAClassWithItself();
        ofPairsOfClasses();
        independentOfCoboundaries();
        bad();
        CHECK.finish();
    }

    private static void ofEmpty() {
        CHECK.under("Promise 19: how many of the products of cocycles of dimension 1 .. are independent");
        HoleCounter x = new HoleCounter();
        CHECK.due("nothing", x.products(0), 0);
        Spaces.addAll(x, 0, Spaces.PLANE);
        CHECK.due("the other complex", x.products(1), 0);
        CHECK.due("the projective plane", x.products(0), 1);
        x.clear(0);
        CHECK.due("cleared", x.products(0), 0);
    }

    private static void ofFull() {
        CHECK.under("Promise 19: how many of the products of cocycles of dimension 1 .. are independent");
        for (int c = 0; c < 2; c++) {
            HoleCounter x = new HoleCounter();
            Spaces.addAll(x, c, Spaces.CUBE);
            CHECK.due("24 edges and 24 triangles that make a sphere", x.products(c), 0);
            HoleCounter klein = new HoleCounter();
            Spaces.addAll(klein, c, Spaces.KLEIN);
            CHECK.due("edges of the Klein bottle", klein.count(c, 1), 24);
            CHECK.due("24 edges that make a Klein bottle", klein.products(c), 1);
        }
    }

    private static void withoutTriangles() {
        CHECK.under("Promise 19: how many of the products of cocycles of dimension 1 .. are independent");
        HoleCounter x = new HoleCounter();
        for (int set = 1; set < 256; set++) {
            if (Integer.bitCount(set) == 2) {
                x.add(0, set);
            }
        }
        CHECK.due("24 edges, all of them cocycles", x.products(0), 0);
        x.add(0, 7);
        CHECK.due("and a triangle, which is a coboundary", x.products(0), 0);
        CHECK.due("a point", Spaces.with(new int[] {128}).products(0), 0);
        CHECK.due("a tetrahedron", Spaces.with(new int[] {240}).products(0), 0);
    }

    private static void ofAClassWithItself() {
        CHECK.under("Promise 19: (of all pairs of them)");
        HoleCounter x = Spaces.with(Spaces.PLANE);
        CHECK.due("there is one class of the projective plane", x.bettiModulo(0, 1, 2), 1);
        CHECK.due("its product with itself", x.products(0), 1);
    }

    /** On the torus a class times itself is 0, so only a pair of two tells it from a sphere with circles. */
    private static void ofPairsOfClasses() {
        CHECK.under("Promise 19: (of all pairs of them)");
        CHECK.due("a torus", Spaces.with(Spaces.TORUS).products(0), 1);
        CHECK.due("a sphere with two circles", Spaces.with(Spaces.SPHERE_AND_CIRCLES).products(0), 0);
    }

    private static void independentOfCoboundaries() {
        CHECK.under("Promise 19: independent of one another and of the coboundaries of the cochains of dimension 1");
        HoleCounter disc = Spaces.with(Spaces.THREEFOLD);
        CHECK.due("modulo 2 nothing is left of a disc three times round", disc.products(0), 0);
        HoleCounter x = Spaces.with(Spaces.PLANE);
        x.add(0, 0b10000011);
        CHECK.due("a triangle with an edge that no other has", x.products(0), 1);
        HoleCounter open = new HoleCounter();
        for (int i = 1; i < Spaces.PLANE.length; i++) {
            open.add(0, Spaces.PLANE[i]);
        }
        CHECK.due("the projective plane without a triangle", open.bettiModulo(0, 1, 2), 1);
        CHECK.due("all products are coboundaries there", open.products(0), 0);
    }

    private static void bad() {
        CHECK.under("Promise 19: BAD when c is not 0 or 1.");
        HoleCounter x = Spaces.with(Spaces.PLANE);
        Spaces.addAll(x, 1, Spaces.TORUS);
        for (int c : Outside.COMPLEXES) {
            CHECK.due("products(" + c + ")", x.products(c), HoleCounter.BAD);
            CHECK.due("of empty ones", new HoleCounter().products(c), HoleCounter.BAD);
        }
        CHECK.due("products(0)", x.products(0), 1);
        CHECK.due("products(1)", x.products(1), 1);
    }
}
