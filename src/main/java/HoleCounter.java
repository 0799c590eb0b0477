import java.util.Arrays;

/**
 * Two complexes of points, edges, triangles and tetrahedra on eight vertices, and what holes they have.
 *
 * <p>All questions about holes become questions about the rank or the invariant factors of a small matrix. One
 * elimination, modulo a power of a prime, answers them all, so no number can outgrow its type. Every row of numbers is
 * made in a constructor and used again by each call.
 */
public final class HoleCounter {
    public static final int BAD = -1;
    public static final int FULL = -2;
    public static final int OPEN = -3;
    public static final int BROKEN = -4;

    private static final int VERTICES = 8;
    private static final int SETS = 256;
    private static final int DIMENSIONS = 4;
    private static final int MOST = 24;
    private static final int LARGEST_KEPT = 9;
    private static final int ABSENT = -1;

    /**
     * Ranks over the fractions are taken modulo this prime. A column of a boundary has at most four entries, all 1 or
     * -1, so by Hadamard's bound no minor of 24 columns is beyond 2^24, and with a kept chain as one more column none
     * is beyond 2^23 * 9 * 5: below half of the prime, so a minor that is not 0 stays so, and can be read off.
     */
    private static final int PRIME = 2147483647;

    /**
     * The matrix of the map has up to 48 columns of four entries, or, for tetrahedra, 24 of five, so its minors reach
     * 2^48 at most. Such a number, if not 0, cannot be divided by both primes, so the larger one of the two ranks is
     * the rank over the fractions.
     */
    private static final int OTHER_PRIME = 2147483629;

    private final Complex source;
    private final Complex target;
    private final int[] images;
    private final Grid grid;
    private final Span span;
    private final int[] fronts;
    private final int[] backs;

    public HoleCounter() {
        source = new Complex();
        target = new Complex();
        images = new int[VERTICES];
        for (int v = 0; v < VERTICES; v++) {
            images[v] = v;
        }
        grid = new Grid();
        span = new Span();
        fronts = new int[MOST];
        backs = new int[MOST];
    }

    public int add(int c, int set) {
        Complex complex = complexAt(c);
        if (complex == null || set < 1 || set >= SETS || Integer.bitCount(set) > DIMENSIONS) {
            return BAD;
        }
        return complex.include(set);
    }

    public boolean clear(int c) {
        Complex complex = complexAt(c);
        if (complex == null) {
            return false;
        }
        complex.dropAll();
        return true;
    }

    public int count(int c, int k) {
        Complex complex = complexAt(c);
        if (complex == null || !isDimension(k)) {
            return BAD;
        }
        return complex.size(k);
    }

    public int simplex(int c, int k, int i) {
        Complex complex = complexAt(c);
        if (complex == null || i < 0 || i >= complex.size(k)) {
            return BAD;
        }
        return complex.setAt(k, i);
    }

    public int incidence(int c, int k, int i, int j) {
        Complex complex = complexAt(c);
        if (complex == null || i < 0 || i >= complex.size(k - 1) || j < 0 || j >= complex.size(k)) {
            return 0;
        }
        return signOfFace(complex.setAt(k - 1, i), complex.setAt(k, j));
    }

    public int euler(int c) {
        Complex complex = complexAt(c);
        if (complex == null) {
            return 0;
        }
        return complex.size(0) - complex.size(1) + complex.size(2) - complex.size(3);
    }

    public int betti(int c, int k) {
        return independentHoles(c, k, PRIME);
    }

    public int torsion(int c, int k, int i) {
        Complex complex = complexAt(c);
        if (complex == null || !isDimension(k) || i < 0) {
            return BAD;
        }
        layBoundary(complex, k + 1);
        int rank = grid.findFactors();
        int ones = 0;
        while (ones < rank && grid.factor(ones) == 1) {
            ones++;
        }
        return i < rank - ones ? grid.factor(ones + i) : 0;
    }

    public int bettiModulo(int c, int k, int p) {
        if (p != 2 && p != 3 && p != 5 && p != 7 && p != 11 && p != 13) {
            return BAD;
        }
        return independentHoles(c, k, p);
    }

    public boolean put(int c, int set, int x) {
        Complex complex = complexAt(c);
        if (complex == null || !complex.holds(set) || x < -LARGEST_KEPT || x > LARGEST_KEPT) {
            return false;
        }
        complex.keep(set, x);
        return true;
    }

    public int get(int c, int set) {
        Complex complex = complexAt(c);
        if (complex == null || !complex.holds(set)) {
            return 0;
        }
        return complex.keptFor(set);
    }

    public int boundary(int c, int set) {
        Complex complex = complexAt(c);
        if (complex == null || !complex.holds(set)) {
            return 0;
        }
        return complex.boundaryAt(set);
    }

    public int order(int c, int k) {
        Complex complex = complexAt(c);
        if (complex == null || !isDimension(k)) {
            return BAD;
        }
        if (!complex.keepsCycle(k)) {
            return OPEN;
        }
        int bounding = complex.size(k + 1);
        grid.shape(complex.size(k), bounding + 1);
        writeBoundary(complex, k + 1, 0, 0);
        for (int i = 0; i < complex.size(k); i++) {
            grid.write(i, bounding, complex.keptFor(complex.setAt(k, i)));
        }
        return grid.orderOfLastColumn();
    }

    public boolean map(int v, int w) {
        if (v < 0 || v >= VERTICES || w < 0 || w >= VERTICES) {
            return false;
        }
        images[v] = w;
        return true;
    }

    public boolean simplicial() {
        for (int k = 0; k < DIMENSIONS; k++) {
            for (int i = 0; i < source.size(k); i++) {
                if (!target.holds(imageSet(source.setAt(k, i)))) {
                    return false;
                }
            }
        }
        return true;
    }

    public int image(int set) {
        if (!target.holds(set) || !simplicial()) {
            return 0;
        }
        int k = dimensionOf(set);
        int sum = 0;
        for (int i = 0; i < source.size(k); i++) {
            int simplex = source.setAt(k, i);
            if (imageSet(simplex) == set) {
                sum += imageSign(simplex) * source.keptFor(simplex);
            }
        }
        return sum;
    }

    public int rank(int k) {
        if (!isDimension(k)) {
            return BAD;
        }
        if (!simplicial()) {
            return BROKEN;
        }
        layMap(k);
        int whole = Math.max(grid.eliminate(PRIME, 1), grid.eliminate(OTHER_PRIME, 1));
        return whole - boundaryRank(source, k, PRIME) - boundaryRank(target, k + 1, PRIME);
    }

    public int products(int c) {
        Complex complex = complexAt(c);
        if (complex == null) {
            return BAD;
        }
        int cocycles = findCocycles(complex);
        int independent = 0;
        for (int i = 0; i < cocycles; i++) {
            for (int j = 0; j < cocycles; j++) {
                if (span.take(fronts[i] & backs[j])) {
                    independent++;
                }
            }
        }
        return independent;
    }

    private Complex complexAt(int c) {
        if (c == 0) {
            return source;
        }
        return c == 1 ? target : null;
    }

    private static boolean isDimension(int k) {
        return k >= 0 && k < DIMENSIONS;
    }

    private static int dimensionOf(int set) {
        return Integer.bitCount(set) - 1;
    }

    /** What the boundary of a simplex gives to a set of one vertex less. */
    private static int signOfFace(int face, int simplex) {
        int missing = simplex & ~face;
        if ((face & ~simplex) != 0 || Integer.bitCount(missing) != 1) {
            return 0;
        }
        return signOfCount(Integer.bitCount(simplex & (missing - 1)));
    }

    private static int signOfCount(int swaps) {
        return (swaps & 1) == 0 ? 1 : -1;
    }

    private int independentHoles(int c, int k, int prime) {
        Complex complex = complexAt(c);
        if (complex == null || !isDimension(k)) {
            return BAD;
        }
        return complex.size(k) - boundaryRank(complex, k, prime) - boundaryRank(complex, k + 1, prime);
    }

    private int boundaryRank(Complex complex, int k, int prime) {
        layBoundary(complex, k);
        return grid.eliminate(prime, 1);
    }

    private void layBoundary(Complex complex, int k) {
        grid.shape(complex.size(k - 1), complex.size(k));
        writeBoundary(complex, k, 0, 0);
    }

    private void writeBoundary(Complex complex, int k, int firstRow, int firstColumn) {
        if (k == 0) {
            return;
        }
        for (int j = 0; j < complex.size(k); j++) {
            int simplex = complex.setAt(k, j);
            for (int v = 0; v < VERTICES; v++) {
                int face = simplex & ~(1 << v);
                if (face != simplex) {
                    grid.write(firstRow + complex.placeOf(face), firstColumn + j, signOfFace(face, simplex));
                }
            }
        }
    }

    /**
     * The boundaries of complex 0 stand above the images of its simplices, and beside these the bounding chains of
     * complex 1. The rank of the whole is that of the boundaries above and that of the images of cycles with the
     * bounding chains: no cycle has to be found.
     */
    private void layMap(int k) {
        int above = source.size(k - 1);
        int left = source.size(k);
        grid.shape(above + target.size(k), left + target.size(k + 1));
        writeBoundary(source, k, 0, 0);
        writeBoundary(target, k + 1, above, left);
        for (int j = 0; j < left; j++) {
            int simplex = source.setAt(k, j);
            int sign = imageSign(simplex);
            if (sign != 0) {
                grid.write(above + target.placeOf(imageSet(simplex)), j, sign);
            }
        }
    }

    private int imageSet(int simplex) {
        int set = 0;
        for (int v = 0; v < VERTICES; v++) {
            if ((simplex >> v & 1) != 0) {
                set |= 1 << images[v];
            }
        }
        return set;
    }

    private int imageSign(int simplex) {
        int seen = 0;
        int swaps = 0;
        for (int v = 0; v < VERTICES; v++) {
            if ((simplex >> v & 1) != 0) {
                int fromImage = seen >> images[v];
                if ((fromImage & 1) != 0) {
                    return 0;
                }
                swaps += Integer.bitCount(fromImage);
                seen |= 1 << images[v];
            }
        }
        return signOfCount(swaps);
    }

    /**
     * Leaves the coboundaries in the span, and for each cocycle of a basis the triangles whose first two vertices it
     * gives 1 to, and those whose last two: a product is what the two have in common.
     */
    private int findCocycles(Complex complex) {
        span.dropAll();
        int cocycles = 0;
        for (int e = 0; e < complex.size(1); e++) {
            long tagged = complex.coboundaryOfEdge(e) | 1L << (MOST + e);
            if (!span.take(tagged)) {
                int edges = (int) (span.reduced(tagged) >> MOST);
                fronts[cocycles] = complex.trianglesOver(edges, true);
                backs[cocycles] = complex.trianglesOver(edges, false);
                cocycles++;
            }
        }
        return cocycles;
    }

    /** The simplices of one complex, in order, and the number that is kept for each. */
    private static final class Complex {
        private final int[] place;
        private final int[] kept;
        private final int[] sizes;
        private final int[] sets;
        private final int[] grown;

        Complex() {
            place = new int[SETS];
            Arrays.fill(place, ABSENT);
            kept = new int[SETS];
            sizes = new int[DIMENSIONS];
            sets = new int[DIMENSIONS * MOST];
            grown = new int[DIMENSIONS];
        }

        void dropAll() {
            Arrays.fill(place, ABSENT);
            Arrays.fill(kept, 0);
            Arrays.fill(sizes, 0);
        }

        /** 0 for dimensions that no simplex has, so that boundaries at both ends need no case of their own. */
        int size(int k) {
            return isDimension(k) ? sizes[k] : 0;
        }

        int setAt(int k, int i) {
            return sets[k * MOST + i];
        }

        boolean holds(int set) {
            return set > 0 && set < SETS && place[set] != ABSENT;
        }

        int placeOf(int set) {
            return place[set];
        }

        int keptFor(int set) {
            return kept[set];
        }

        void keep(int set, int x) {
            kept[set] = x;
        }

        int include(int set) {
            Arrays.fill(grown, 0);
            for (int face = set; face > 0; face = (face - 1) & set) {
                if (place[face] == ABSENT) {
                    grown[dimensionOf(face)]++;
                }
            }
            int more = 0;
            for (int k = 0; k < DIMENSIONS; k++) {
                if (sizes[k] + grown[k] > MOST) {
                    return FULL;
                }
                more += grown[k];
            }
            for (int face = set; face > 0; face = (face - 1) & set) {
                place[face] = 0;
            }
            numberAnew();
            return more;
        }

        private void numberAnew() {
            Arrays.fill(sizes, 0);
            for (int set = 1; set < SETS; set++) {
                if (place[set] != ABSENT) {
                    int k = dimensionOf(set);
                    place[set] = sizes[k];
                    sets[k * MOST + sizes[k]] = set;
                    sizes[k]++;
                }
            }
        }

        int boundaryAt(int face) {
            int k = dimensionOf(face) + 1;
            int sum = 0;
            for (int j = 0; j < size(k); j++) {
                int simplex = setAt(k, j);
                sum += signOfFace(face, simplex) * kept[simplex];
            }
            return sum;
        }

        boolean keepsCycle(int k) {
            for (int i = 0; i < size(k - 1); i++) {
                if (boundaryAt(setAt(k - 1, i)) != 0) {
                    return false;
                }
            }
            return true;
        }

        /** Modulo 2: bit t stands for triangle t. */
        int coboundaryOfEdge(int e) {
            int edge = setAt(1, e);
            int triangles = 0;
            for (int t = 0; t < size(2); t++) {
                if ((setAt(2, t) & edge) == edge) {
                    triangles |= 1 << t;
                }
            }
            return triangles;
        }

        /** The triangles whose edge of the first two vertices, or of the last two, is among the edges. */
        int trianglesOver(int edges, boolean firstTwo) {
            int triangles = 0;
            for (int t = 0; t < size(2); t++) {
                int triangle = setAt(2, t);
                int withoutLowest = triangle & (triangle - 1);
                int middle = withoutLowest & -withoutLowest;
                int edge = firstTwo ? triangle & (2 * middle - 1) : withoutLowest;
                if ((edges >> place[edge] & 1) != 0) {
                    triangles |= 1 << t;
                }
            }
            return triangles;
        }
    }

    /** Independent rows modulo 2. Only the lowest bits count; a tag above them tells of what a row is the sum. */
    private static final class Span {
        private final long[] rows;

        Span() {
            rows = new long[MOST];
        }

        void dropAll() {
            Arrays.fill(rows, 0L);
        }

        long reduced(long row) {
            long left = row;
            for (int bit = 0; bit < MOST; bit++) {
                if ((left >> bit & 1) != 0) {
                    left ^= rows[bit];
                }
            }
            return left;
        }

        /** Whether the row was independent of those that were taken before. */
        boolean take(long row) {
            long left = reduced(row);
            for (int bit = 0; bit < MOST; bit++) {
                if ((left >> bit & 1) != 0) {
                    rows[bit] = left;
                    return true;
                }
            }
            return false;
        }
    }

    /** A matrix of whole numbers, and its elimination modulo a power of a prime. */
    private static final class Grid {
        private static final int SIDE = 2 * MOST;
        private static final int MOST_POWERS = 31;
        private static final int MOST_PRIMES = 10;
        private static final int MOST_STEPS = 100;

        private final int[] cells;
        private final int[] work;
        private final int[] pivots;
        private final int[] factors;
        private final int[] primes;
        private final int[] powers;
        private int rows;
        private int columns;
        private int modulus;
        private long minor;
        private int kinds;

        Grid() {
            cells = new int[SIDE * SIDE];
            work = new int[SIDE * SIDE];
            pivots = new int[MOST_POWERS];
            factors = new int[SIDE];
            primes = new int[MOST_PRIMES];
            powers = new int[MOST_PRIMES];
            modulus = PRIME;
        }

        void shape(int newRows, int newColumns) {
            rows = newRows;
            columns = newColumns;
            for (int row = 0; row < rows; row++) {
                for (int column = 0; column < columns; column++) {
                    cells[row * SIDE + column] = 0;
                }
            }
        }

        void write(int row, int column, int x) {
            cells[row * SIDE + column] = x;
        }

        int factor(int i) {
            return factors[i];
        }

        /**
         * Answers how many pivots there are, and leaves in pivots how many of them are divided by the prime just so
         * many times. All that stands below the pivots is divided as often as the last one, so a column that has no
         * pivot for a level gets none by later steps of that level, and one sweep over the columns is enough for each.
         */
        int eliminate(int prime, int power) {
            load(prime, power);
            minor = 1;
            int top = 0;
            int unit = 1;
            for (int level = 0; level < power; level++) {
                int before = top;
                for (int column = 0; column < columns; column++) {
                    int row = pivotRow(top, column, unit * prime);
                    if (row < rows) {
                        swapRows(top, row);
                        minor = minor * work[top * SIDE + column] % modulus;
                        clearBelow(top, column, unit);
                        top++;
                    }
                }
                pivots[level] = top - before;
                unit *= prime;
            }
            return top;
        }

        private void load(int prime, int power) {
            modulus = 1;
            for (int i = 0; i < power; i++) {
                modulus *= prime;
            }
            for (int row = 0; row < rows; row++) {
                for (int column = 0; column < columns; column++) {
                    int at = row * SIDE + column;
                    int rest = cells[at] % modulus;
                    work[at] = rest < 0 ? rest + modulus : rest;
                }
            }
        }

        private int pivotRow(int top, int column, int divisor) {
            int row = top;
            while (row < rows && work[row * SIDE + column] % divisor == 0) {
                row++;
            }
            return row;
        }

        private void swapRows(int a, int b) {
            if (a == b) {
                return;
            }
            for (int column = 0; column < columns; column++) {
                int x = work[a * SIDE + column];
                work[a * SIDE + column] = work[b * SIDE + column];
                work[b * SIDE + column] = x;
            }
        }

        private void clearBelow(int top, int column, int unit) {
            long inverse = inverseOf(work[top * SIDE + column] / unit);
            for (int row = top + 1; row < rows; row++) {
                int entry = work[row * SIDE + column];
                if (entry != 0) {
                    addRow(row, top, modulus - entry / unit * inverse % modulus);
                }
            }
        }

        private void addRow(int row, int top, long times) {
            for (int column = 0; column < columns; column++) {
                int x = work[top * SIDE + column];
                if (x != 0) {
                    int at = row * SIDE + column;
                    work[at] = (int) ((work[at] + times * x) % modulus);
                }
            }
        }

        private long inverseOf(int x) {
            long a = x;
            long b = modulus;
            long forA = 1;
            long forB = 0;
            for (int step = 0; step < MOST_STEPS && b != 0; step++) {
                long times = a / b;
                long rest = a - times * b;
                long forRest = forA - times * forB;
                a = b;
                forA = forB;
                b = rest;
                forB = forRest;
            }
            return forA < 0 ? forA + modulus : forA;
        }

        /**
         * Every invariant factor divides every minor of the size of the rank that is not 0, so only the powers of
         * primes in such a minor have to be looked at. Answers the rank.
         */
        private int splitMinor() {
            int rank = eliminate(PRIME, 1);
            int left = (int) Math.min(minor, PRIME - minor);
            kinds = 0;
            for (int prime = 2; prime * prime <= left; prime++) {
                int power = 0;
                while (left > 1 && left % prime == 0) {
                    left /= prime;
                    power++;
                }
                noteKind(prime, power);
            }
            noteKind(left, left > 1 ? 1 : 0);
            return rank;
        }

        private void noteKind(int prime, int power) {
            if (power > 0 && kinds < MOST_PRIMES) {
                primes[kinds] = prime;
                powers[kinds] = power;
                kinds++;
            }
        }

        /** Leaves the invariant factors in factors, each dividing the next one, and answers how many they are. */
        int findFactors() {
            int rank = splitMinor();
            for (int i = 0; i < rank; i++) {
                factors[i] = 1;
            }
            for (int kind = 0; kind < kinds; kind++) {
                eliminate(primes[kind], powers[kind]);
                int less = 0;
                for (int level = 0; level < powers[kind]; level++) {
                    less += pivots[level];
                    for (int i = less; i < rank; i++) {
                        factors[i] *= primes[kind];
                    }
                }
            }
            return rank;
        }

        /**
         * How many times the last column must be taken to be a sum of the others, each a whole number of times; 0 when
         * that cannot be. It is the quotient of the products of the invariant factors without the column and with it.
         */
        int orderOfLastColumn() {
            int all = columns;
            columns = all - 1;
            int rank = splitMinor();
            columns = all;
            if (eliminate(PRIME, 1) > rank) {
                return 0;
            }
            int order = 1;
            for (int kind = 0; kind < kinds; kind++) {
                columns = all - 1;
                int without = dividedBy(kind, rank);
                columns = all;
                int with = dividedBy(kind, rank);
                for (int i = with; i < without; i++) {
                    order *= primes[kind];
                }
            }
            return order;
        }

        /** How often the product of the invariant factors is divided by a prime of the minor. */
        private int dividedBy(int kind, int rank) {
            int found = eliminate(primes[kind], powers[kind]);
            int times = (rank - found) * powers[kind];
            for (int level = 0; level < powers[kind]; level++) {
                times += level * pivots[level];
            }
            return times;
        }
    }
}
