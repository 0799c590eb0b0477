/** Promise 19: products. */
public final class ProductsTest {
    private static final Check CHECK = new Check("ProductsTest");

    public static void main(String[] args) {
        space("nothing", new int[] {}, 0);
        space("a triangle", new int[] {7}, 0);
        space("a circle", Spaces.CIRCLE, 0);
        space("a solid", new int[] {15}, 0);
        space("a sphere", Spaces.OCTAHEDRON, 0);
        space("a sphere and circles", Spaces.SPHERE_AND_CIRCLES, 0);
        space("a torus", Spaces.TORUS, 1);
        space("the projective plane", Spaces.PLANE, 1);
        space("a Klein bottle", Spaces.KLEIN, 1);
        space("a disc on a circle, three times round", Spaces.THREEFOLD, 0);
        everyOrderOfVertices();
        changes();
        refusals();
        CHECK.finish();
    }

    private static void space(String name, int[] sets, int want) {
        for (int c = 0; c < 2; c++) {
            HoleCounter x = new HoleCounter();
            Spaces.addAll(x, c, sets);
            CHECK.due(name, x.products(c), want);
            CHECK.due(name + ": the other complex", x.products(1 - c), 0);
        }
    }

    /** Which vertices are first and last in a triangle changes with their names, but not how many products there are. */
    private static void everyOrderOfVertices() {
        int[] names = {0, 1, 2, 3, 4, 5, 6, 7};
        for (int turn = 0; turn < 200; turn++) {
            int i = turn * 5 % 8;
            int j = (turn * 3 + turn / 8 + 1) % 8;
            int name = names[i];
            names[i] = names[j];
            names[j] = name;
            CHECK.due("torus, turn " + turn, Spaces.with(renamed(Spaces.TORUS, names)).products(0), 1);
            CHECK.due("plane, turn " + turn, Spaces.with(renamed(Spaces.PLANE, names)).products(0), 1);
            CHECK.due("spheres, turn " + turn, Spaces.with(renamed(Spaces.SPHERE_AND_CIRCLES, names)).products(0), 0);
        }
    }

    private static int[] renamed(int[] sets, int[] names) {
        int[] result = new int[sets.length];
        for (int s = 0; s < sets.length; s++) {
            for (int v = 0; v < 8; v++) {
                result[s] |= (sets[s] >> v & 1) << names[v];
            }
        }
        return result;
    }

    private static void changes() {
        HoleCounter x = Spaces.with(Spaces.PLANE);
        CHECK.due("before", x.products(0), 1);
        CHECK.due("asked again", x.products(0), 1);
        x.put(0, 7, 3);
        CHECK.due("kept numbers do not count", x.products(0), 1);
        x.add(0, 19);
        CHECK.due("a line filled", x.products(0), 0);
        x.clear(0);
        CHECK.due("cleared", x.products(0), 0);
    }

    private static void refusals() {
        HoleCounter x = Spaces.with(Spaces.PLANE);
        for (int c : Outside.COMPLEXES) {
            CHECK.due("products of complex " + c, x.products(c), HoleCounter.BAD);
        }
    }
}
