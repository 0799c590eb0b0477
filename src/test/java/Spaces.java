/** Known spaces as the sets to add. */
final class Spaces {
    /** The projective plane: H(1) has two elements. */
    static final int[] PLANE = {7, 11, 21, 41, 49, 38, 26, 50, 28, 44};

    /** The torus on seven vertices; v -> v + 1 modulo 7 takes it to itself. */
    static final int[] TORUS = {11, 13, 22, 26, 44, 52, 88, 104, 49, 81, 98, 35, 69, 70};

    /** The Klein bottle on eight vertices: H(1) is the whole numbers and a group of two elements. */
    static final int[] KLEIN = {7, 67, 37, 22, 82, 148, 161, 100, 73, 25, 145, 56, 168, 112, 196, 200};

    /** A disc whose rim goes three times round the triangle 0, 1, 2: H(1) has three elements. */
    static final int[] THREEFOLD = {11, 14, 28, 21, 19, 50, 38, 37, 97, 67, 70, 196, 133, 137, 56, 104, 200};

    /** The octahedron: a sphere whose opposite vertices are 0 and 1, 2 and 3, 4 and 5. */
    static final int[] OCTAHEDRON = {21, 37, 25, 41, 22, 38, 26, 42};

    /** The tetrahedron 0, 1, 2, 3 without its inside, and two circles through vertex 3: Betti numbers as the torus. */
    static final int[] SPHERE_AND_CIRCLES = {7, 11, 13, 14, 24, 48, 40, 72, 192, 136};

    /**
     * The six sides of a cube, each a tetrahedron: a sphere as full as can be, with 24 edges and 24 triangles. It lacks the
     * edges 0, 5 and 1, 4 and 2, 7 and 3, 6 across the cube alone.
     */
    static final int[] CUBE = {15, 240, 85, 170, 102, 153};

    /** The five sides of a simplex of four dimensions. */
    static final int[] HOLLOW = {15, 23, 27, 29, 30};

    /** The circle of the edges of the triangle 0, 1, 2. */
    static final int[] CIRCLE = {3, 5, 6};

    private Spaces() {
    }

    static void addAll(HoleCounter x, int c, int[] sets) {
        for (int set : sets) {
            x.add(c, set);
        }
    }

    static HoleCounter with(int[] sets) {
        HoleCounter x = new HoleCounter();
        addAll(x, 0, sets);
        return x;
    }
}
