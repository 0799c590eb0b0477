/** Arguments out of their bounds: the first one on either side, and the smallest and the largest int. */
final class Outside {
    static final int[] COMPLEXES = {-1, 2, Integer.MIN_VALUE, Integer.MAX_VALUE};
    static final int[] DIMENSIONS = {-1, 4, Integer.MIN_VALUE, Integer.MAX_VALUE};
    static final int[] VERTICES = {-1, 8, Integer.MIN_VALUE, Integer.MAX_VALUE};
    static final int[] SETS = {0, -1, 256, Integer.MIN_VALUE, Integer.MAX_VALUE};
    static final int[] NUMBERS = {-10, 10, Integer.MIN_VALUE, Integer.MAX_VALUE};

    /** Sets of 1 .. 255 with five vertices or more, the smallest and the largest of five among them. */
    static final int[] LARGE_SETS = {31, 248, 63, 127, 254, 255};

    /** For places, whose first bad one at the upper side depends on the complex. */
    static int[] places(int count) {
        return new int[] {-1, count, 24, 25, Integer.MIN_VALUE, Integer.MAX_VALUE};
    }

    private Outside() {
    }
}
