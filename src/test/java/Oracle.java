import java.math.BigInteger;
import java.util.ArrayList;
import java.util.List;
import java.util.TreeMap;

/**
 * The document's words done in the plainest way, with numbers of any size and other algorithms than the program's: Smith's
 * form by Euclid's steps, cycles as solutions with fractions, cocycles counted out where they are few.
 */
final class Oracle {
    private final List<TreeMap<Integer, Integer>> kept = List.of(new TreeMap<>(), new TreeMap<>());
    private final int[] f = {0, 1, 2, 3, 4, 5, 6, 7};

    int add(int c, int set) {
        if (!isComplex(c) || set < 1 || set > 255 || Integer.bitCount(set) > 4) {
            return HoleCounter.BAD;
        }
        TreeMap<Integer, Integer> after = new TreeMap<>(kept.get(c));
        for (int face = 1; face <= set; face++) {
            if ((face & set) == face) {
                after.putIfAbsent(face, 0);
            }
        }
        for (int k = 0; k < 4; k++) {
            int vertices = k + 1;
            if (after.keySet().stream().filter(s -> Integer.bitCount(s) == vertices).count() > 24) {
                return HoleCounter.FULL;
            }
        }
        int more = after.size() - kept.get(c).size();
        kept.get(c).putAll(after);
        return more;
    }

    boolean clear(int c) {
        if (!isComplex(c)) {
            return false;
        }
        kept.get(c).clear();
        return true;
    }

    int count(int c, int k) {
        return isComplex(c) && isDimension(k) ? simplices(c, k).size() : HoleCounter.BAD;
    }

    int simplex(int c, int k, int i) {
        if (!isComplex(c) || !isDimension(k) || i < 0 || i >= simplices(c, k).size()) {
            return HoleCounter.BAD;
        }
        return simplices(c, k).get(i);
    }

    int incidence(int c, int k, int i, int j) {
        if (!isComplex(c) || k < 1 || k > 3 || simplex(c, k - 1, i) < 0 || simplex(c, k, j) < 0) {
            return 0;
        }
        return boundaryMatrix(c, k)[i][j].intValue();
    }

    int euler(int c) {
        int sum = 0;
        if (isComplex(c)) {
            for (int set : kept.get(c).keySet()) {
                sum += Integer.bitCount(set) % 2 == 1 ? 1 : -1;
            }
        }
        return sum;
    }

    int betti(int c, int k) {
        if (!isComplex(c) || !isDimension(k)) {
            return HoleCounter.BAD;
        }
        return simplices(c, k).size() - factors(c, k).size() - factors(c, k + 1).size();
    }

    int torsion(int c, int k, int i) {
        if (!isComplex(c) || !isDimension(k) || i < 0) {
            return HoleCounter.BAD;
        }
        List<BigInteger> numbers = factors(c, k + 1);
        numbers.removeIf(d -> d.equals(BigInteger.ONE));
        return i < numbers.size() ? numbers.get(i).intValueExact() : 0;
    }

    int bettiModulo(int c, int k, int p) {
        if (!isComplex(c) || !isDimension(k) || !List.of(2, 3, 5, 7, 11, 13).contains(p)) {
            return HoleCounter.BAD;
        }
        return simplices(c, k).size() - undivided(factors(c, k), p) - undivided(factors(c, k + 1), p);
    }

    boolean put(int c, int set, int x) {
        if (!isComplex(c) || !kept.get(c).containsKey(set) || x < -9 || x > 9) {
            return false;
        }
        kept.get(c).put(set, x);
        return true;
    }

    int get(int c, int set) {
        return isComplex(c) ? kept.get(c).getOrDefault(set, 0) : 0;
    }

    int boundary(int c, int set) {
        if (!isComplex(c) || !kept.get(c).containsKey(set)) {
            return 0;
        }
        int k = Integer.bitCount(set);
        BigInteger[][] matrix = boundaryMatrix(c, k);
        return times(matrix, chain(c, k))[simplices(c, k - 1).indexOf(set)].intValueExact();
    }

    int order(int c, int k) {
        if (!isComplex(c) || !isDimension(k)) {
            return HoleCounter.BAD;
        }
        for (BigInteger x : times(boundaryMatrix(c, k), chain(c, k))) {
            if (x.signum() != 0) {
                return HoleCounter.OPEN;
            }
        }
        BigInteger[] z = chain(c, k);
        List<BigInteger> d = smith(boundaryMatrix(c, k + 1), z);
        BigInteger order = BigInteger.ONE;
        for (int i = 0; i < z.length; i++) {
            if (i >= d.size() && z[i].signum() != 0) {
                return 0;
            }
            if (i < d.size()) {
                BigInteger m = d.get(i).divide(d.get(i).gcd(z[i]));
                order = order.multiply(m).divide(order.gcd(m));
            }
        }
        return order.intValueExact();
    }

    boolean map(int v, int w) {
        if (v < 0 || v > 7 || w < 0 || w > 7) {
            return false;
        }
        f[v] = w;
        return true;
    }

    boolean simplicial() {
        for (int set : kept.get(0).keySet()) {
            int images = 0;
            for (int v : vertices(set)) {
                images |= 1 << f[v];
            }
            if (!kept.get(1).containsKey(images)) {
                return false;
            }
        }
        return true;
    }

    int image(int set) {
        if (!kept.get(1).containsKey(set) || !simplicial()) {
            return 0;
        }
        int k = Integer.bitCount(set) - 1;
        return times(imageMatrix(k), chain(0, k))[simplices(1, k).indexOf(set)].intValueExact();
    }

    int rank(int k) {
        if (!isDimension(k)) {
            return HoleCounter.BAD;
        }
        if (!simplicial()) {
            return HoleCounter.BROKEN;
        }
        List<BigInteger[]> columns = new ArrayList<>();
        for (BigInteger[] cycle : solutions(boundaryMatrix(0, k), simplices(0, k).size())) {
            columns.add(times(imageMatrix(k), cycle));
        }
        BigInteger[][] bounding = boundaryMatrix(1, k + 1);
        for (int j = 0; j < simplices(1, k + 1).size(); j++) {
            BigInteger[] column = new BigInteger[bounding.length];
            for (int i = 0; i < bounding.length; i++) {
                column[i] = bounding[i][j];
            }
            columns.add(column);
        }
        BigInteger[][] rows = columns.toArray(new BigInteger[0][]);
        return smith(rows, zeros(rows.length)).size() - factors(1, k + 1).size();
    }

    int products(int c) {
        if (!isComplex(c)) {
            return HoleCounter.BAD;
        }
        List<Integer> edges = simplices(c, 1);
        List<Integer> triangles = simplices(c, 2);
        List<Integer> coboundaries = new ArrayList<>();
        for (int e = 0; e < edges.size(); e++) {
            coboundaries.add(coboundary(edges, triangles, 1 << e));
        }
        List<Integer> cocycles = cocycles(edges, triangles);
        List<Integer> all = new ArrayList<>(coboundaries);
        for (int a : cocycles) {
            for (int b : cocycles) {
                all.add(product(edges, triangles, a, b));
            }
        }
        return rankOfBits(all) - rankOfBits(coboundaries);
    }

    private static boolean isComplex(int c) {
        return c == 0 || c == 1;
    }

    private static boolean isDimension(int k) {
        return k >= 0 && k <= 3;
    }

    private static List<Integer> vertices(int set) {
        List<Integer> list = new ArrayList<>();
        for (int v = 0; v < 8; v++) {
            if ((set & 1 << v) != 0) {
                list.add(v);
            }
        }
        return list;
    }

    private List<Integer> simplices(int c, int k) {
        List<Integer> list = new ArrayList<>();
        for (int set : kept.get(c).keySet()) {
            if (Integer.bitCount(set) == k + 1) {
                list.add(set);
            }
        }
        return list;
    }

    private BigInteger[] chain(int c, int k) {
        return simplices(c, k).stream().map(s -> BigInteger.valueOf(get(c, s))).toArray(BigInteger[]::new);
    }

    private static BigInteger[] zeros(int n) {
        BigInteger[] row = new BigInteger[n];
        java.util.Arrays.fill(row, BigInteger.ZERO);
        return row;
    }

    private static BigInteger[][] zeros(int m, int n) {
        BigInteger[][] matrix = new BigInteger[m][];
        for (int i = 0; i < m; i++) {
            matrix[i] = zeros(n);
        }
        return matrix;
    }

    private BigInteger[][] boundaryMatrix(int c, int k) {
        List<Integer> faces = simplices(c, k - 1);
        List<Integer> sets = simplices(c, k);
        BigInteger[][] matrix = zeros(faces.size(), sets.size());
        for (int j = 0; j < sets.size() && k > 0; j++) {
            List<Integer> list = vertices(sets.get(j));
            for (int i = 0; i < list.size(); i++) {
                int face = sets.get(j) - (1 << list.get(i));
                matrix[faces.indexOf(face)][j] = BigInteger.valueOf(i % 2 == 0 ? 1 : -1);
            }
        }
        return matrix;
    }

    private BigInteger[][] imageMatrix(int k) {
        List<Integer> from = simplices(0, k);
        List<Integer> to = simplices(1, k);
        BigInteger[][] matrix = zeros(to.size(), from.size());
        for (int s = 0; s < from.size(); s++) {
            List<Integer> list = vertices(from.get(s));
            int set = 0;
            int sign = 1;
            for (int i = 0; i < list.size(); i++) {
                set |= 1 << f[list.get(i)];
                for (int j = i + 1; j < list.size(); j++) {
                    sign *= Integer.compare(f[list.get(j)], f[list.get(i)]);
                }
            }
            if (sign != 0) {
                matrix[to.indexOf(set)][s] = BigInteger.valueOf(sign);
            }
        }
        return matrix;
    }

    private static BigInteger[] times(BigInteger[][] matrix, BigInteger[] column) {
        BigInteger[] result = zeros(matrix.length);
        for (int i = 0; i < matrix.length; i++) {
            for (int j = 0; j < column.length; j++) {
                result[i] = result[i].add(matrix[i][j].multiply(column[j]));
            }
        }
        return result;
    }

    private List<BigInteger> factors(int c, int k) {
        BigInteger[][] matrix = boundaryMatrix(c, k);
        return smith(matrix, zeros(matrix.length));
    }

    private static int undivided(List<BigInteger> factors, int p) {
        return (int) factors.stream().filter(d -> d.mod(BigInteger.valueOf(p)).signum() != 0).count();
    }

    /** The invariant factors of a matrix, which is changed; z goes through the same steps of rows. */
    private static List<BigInteger> smith(BigInteger[][] a, BigInteger[] z) {
        List<BigInteger> factors = new ArrayList<>();
        int t = 0;
        while (moveSmallest(a, z, t)) {
            boolean clean = true;
            for (int i = t + 1; i < a.length; i++) {
                addRow(a, z, i, t, a[i][t].divide(a[t][t]).negate());
                clean &= a[i][t].signum() == 0;
            }
            for (int j = t + 1; j < a[t].length; j++) {
                addColumn(a, j, t, a[t][j].divide(a[t][t]).negate());
                clean &= a[t][j].signum() == 0;
            }
            if (clean && !bringUndivided(a, z, t)) {
                factors.add(a[t][t].abs());
                t++;
            }
        }
        return factors;
    }

    private static boolean moveSmallest(BigInteger[][] a, BigInteger[] z, int t) {
        int row = -1;
        int column = -1;
        for (int i = t; i < a.length; i++) {
            for (int j = t; j < a[i].length; j++) {
                if (a[i][j].signum() != 0 && (row < 0 || a[i][j].abs().compareTo(a[row][column].abs()) < 0)) {
                    row = i;
                    column = j;
                }
            }
        }
        if (row < 0) {
            return false;
        }
        BigInteger[] other = a[t];
        a[t] = a[row];
        a[row] = other;
        BigInteger x = z[t];
        z[t] = z[row];
        z[row] = x;
        for (BigInteger[] line : a) {
            BigInteger y = line[t];
            line[t] = line[column];
            line[column] = y;
        }
        return true;
    }

    private static boolean bringUndivided(BigInteger[][] a, BigInteger[] z, int t) {
        for (int i = t + 1; i < a.length; i++) {
            for (int j = t + 1; j < a[i].length; j++) {
                if (a[i][j].mod(a[t][t].abs()).signum() != 0) {
                    addRow(a, z, t, i, BigInteger.ONE);
                    return true;
                }
            }
        }
        return false;
    }

    private static void addRow(BigInteger[][] a, BigInteger[] z, int to, int from, BigInteger times) {
        for (int j = 0; j < a[to].length; j++) {
            a[to][j] = a[to][j].add(a[from][j].multiply(times));
        }
        z[to] = z[to].add(z[from].multiply(times));
    }

    private static void addColumn(BigInteger[][] a, int to, int from, BigInteger times) {
        for (BigInteger[] row : a) {
            row[to] = row[to].add(row[from].multiply(times));
        }
    }

    /** A basis, over the fractions, of the columns that a matrix of so many columns takes to 0. */
    private static List<BigInteger[]> solutions(BigInteger[][] a, int columns) {
        int[] pivotOf = new int[columns];
        java.util.Arrays.fill(pivotOf, -1);
        int top = 0;
        for (int j = 0; j < columns && top < a.length; j++) {
            int row = top;
            while (row < a.length && a[row][j].signum() == 0) {
                row++;
            }
            if (row < a.length) {
                BigInteger[] other = a[top];
                a[top] = a[row];
                a[row] = other;
                for (int i = 0; i < a.length; i++) {
                    if (i != top) {
                        clear(a, i, top, j);
                    }
                }
                pivotOf[j] = top++;
            }
        }
        List<BigInteger[]> basis = new ArrayList<>();
        for (int free = 0; free < columns; free++) {
            if (pivotOf[free] < 0) {
                basis.add(solution(a, pivotOf, free));
            }
        }
        return basis;
    }

    private static void clear(BigInteger[][] a, int i, int top, int j) {
        BigInteger x = a[i][j];
        BigInteger pivot = a[top][j];
        BigInteger common = BigInteger.ZERO;
        for (int l = 0; l < a[i].length; l++) {
            a[i][l] = a[i][l].multiply(pivot).subtract(a[top][l].multiply(x));
            common = common.gcd(a[i][l]);
        }
        for (int l = 0; l < a[i].length && common.signum() != 0; l++) {
            a[i][l] = a[i][l].divide(common);
        }
    }

    private static BigInteger[] solution(BigInteger[][] a, int[] pivotOf, int free) {
        BigInteger whole = BigInteger.ONE;
        for (int j = 0; j < pivotOf.length; j++) {
            if (pivotOf[j] >= 0) {
                whole = whole.multiply(a[pivotOf[j]][j]);
            }
        }
        BigInteger[] x = zeros(pivotOf.length);
        x[free] = whole;
        for (int j = 0; j < pivotOf.length; j++) {
            if (pivotOf[j] >= 0) {
                x[j] = whole.multiply(a[pivotOf[j]][free]).negate().divide(a[pivotOf[j]][j]);
            }
        }
        return x;
    }

    private static int coboundary(List<Integer> edges, List<Integer> triangles, int cochain) {
        int result = 0;
        for (int t = 0; t < triangles.size(); t++) {
            int sum = 0;
            for (int v : vertices(triangles.get(t))) {
                sum += cochain >> edges.indexOf(triangles.get(t) - (1 << v)) & 1;
            }
            result |= sum % 2 << t;
        }
        return result;
    }

    /** All of them where there are few edges; otherwise a basis, which is enough as a product is linear in both. */
    private static List<Integer> cocycles(List<Integer> edges, List<Integer> triangles) {
        List<Integer> list = new ArrayList<>();
        if (edges.size() <= 9) {
            for (int cochain = 0; cochain < 1 << edges.size(); cochain++) {
                if (coboundary(edges, triangles, cochain) == 0) {
                    list.add(cochain);
                }
            }
            return list;
        }
        List<Integer> others = new ArrayList<>();
        for (int e = 0; e < edges.size(); e++) {
            others.add(1 << e);
        }
        for (int t = 0; t < triangles.size(); t++) {
            others = thoseGivingNone(edges, triangles, others, t);
        }
        return others;
    }

    /** Of all sums of the cochains, a basis of those whose coboundary gives triangle t nothing. */
    private static List<Integer> thoseGivingNone(
            List<Integer> edges, List<Integer> triangles, List<Integer> cochains, int t) {
        List<Integer> list = new ArrayList<>();
        int odd = 0;
        for (int cochain : cochains) {
            if ((coboundary(edges, triangles, cochain) >> t & 1) == 0) {
                list.add(cochain);
            } else if (odd == 0) {
                odd = cochain;
            } else {
                list.add(cochain ^ odd);
            }
        }
        return list;
    }

    private static int product(List<Integer> edges, List<Integer> triangles, int a, int b) {
        int result = 0;
        for (int t = 0; t < triangles.size(); t++) {
            List<Integer> list = vertices(triangles.get(t));
            int first = edges.indexOf((1 << list.get(0)) + (1 << list.get(1)));
            int last = edges.indexOf((1 << list.get(1)) + (1 << list.get(2)));
            result |= (a >> first & b >> last & 1) << t;
        }
        return result;
    }

    private static int rankOfBits(List<Integer> rows) {
        List<Integer> basis = new ArrayList<>();
        for (int row : rows) {
            int left = row;
            for (int b : basis) {
                left = Math.min(left, left ^ b);
            }
            if (left != 0) {
                basis.add(left);
            }
        }
        return basis.size();
    }
}
