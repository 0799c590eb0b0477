/**
 * Long runs of calls, told by a fixed rule, against the oracle: known spaces under other names, random ones, right and
 * wrong arguments. Wrong calls stand among right ones, so what they changed would show.
 */
public final class RandomRunsTest {
    private static final int RUNS = 150;
    private static final int CALLS = 400;
    private static final int[][] SPACES = {
        Spaces.PLANE, Spaces.TORUS, Spaces.KLEIN, Spaces.THREEFOLD, Spaces.OCTAHEDRON, Spaces.SPHERE_AND_CIRCLES,
        Spaces.CIRCLE, Spaces.HOLLOW, Spaces.CUBE, {15, 240}, {}
    };
    private static final int[] WRONG = {-1, 4, 8, 24, 100, 256, Integer.MIN_VALUE, Integer.MAX_VALUE};

    private final Check check;
    private final HoleCounter program = new HoleCounter();
    private final Oracle oracle = new Oracle();
    private final String name;
    private int calls = 0;
    private long dice;

    private RandomRunsTest(Check check, int run) {
        this.check = check;
        this.name = "run " + run + ": ";
        this.dice = run * 7919L + 17;
    }

    public static void main(String[] args) {
        Check check = new Check("RandomRunsTest");
        for (int run = 0; run < RUNS && check.allRight(); run++) {
            new RandomRunsTest(check, run).run();
        }
        check.finish();
    }

    private void run() {
        addSpace(0);
        addSpace(1);
        while (calls < CALLS && check.allRight()) {
            step();
        }
    }

    private int below(int n) {
        dice = dice * 6364136223846793005L + 1442695040888963407L;
        return (int) ((dice >>> 33) % n);
    }

    private int seldomWrong(int n) {
        return below(40) == 0 ? WRONG[below(WRONG.length)] : below(n);
    }

    private int complex() {
        return seldomWrong(2);
    }

    private int dimension() {
        return seldomWrong(4);
    }

    private int randomSet() {
        int set = 0;
        int vertices = 1 + below(below(10) == 0 ? 5 : 4);
        for (int i = 0; i < vertices; i++) {
            set |= 1 << below(8);
        }
        return below(40) == 0 ? WRONG[below(WRONG.length)] : set;
    }

    /** Mostly a simplex that is there. */
    private int simplexOf(int c) {
        int k = below(4);
        int n = program.count(c, k);
        calls += 2;
        return n > 0 && below(8) > 0 ? program.simplex(c, k, below(n)) : randomSet();
    }

    private void due(String call, long got, long want) {
        calls++;
        check.due(name + calls + ": " + call, got, want);
    }

    private void due(String call, boolean got, boolean want) {
        due(call, got ? 1 : 0, want ? 1 : 0);
    }

    private void step() {
        switch (below(16)) {
            case 0, 1 -> add(complex(), randomSet());
            case 2 -> seldomClear();
            case 3 -> askSimplices(complex(), dimension());
            case 4, 5 -> askHoles(complex(), dimension());
            case 6 -> put(complex(), randomSet(), seldomWrong(19) - 9);
            case 7 -> putBoundary(below(2), below(3));
            case 8, 9 -> putWalk(below(2));
            case 10 -> askChains(complex(), dimension());
            case 11 -> map(seldomWrong(8), seldomWrong(8));
            case 12 -> mapAll();
            case 13 -> askMap(dimension());
            case 14 -> askMap(1 + below(2));
            default -> {
                int c = complex();
                due("products(" + c + ")", program.products(c), oracle.products(c));
            }
        }
    }

    private void add(int c, int set) {
        due("add(" + c + ", " + set + ")", program.add(c, set), oracle.add(c, set));
    }

    private void map(int v, int w) {
        due("map(" + v + ", " + w + ")", program.map(v, w), oracle.map(v, w));
    }

    private void put(int c, int set, int x) {
        due("put(" + c + ", " + set + ", " + x + ")", program.put(c, set, x), oracle.put(c, set, x));
    }

    private void seldomClear() {
        int c = complex();
        if (below(3) == 0) {
            due("clear(" + c + ")", program.clear(c), oracle.clear(c));
            addSpace(c);
        }
    }

    private void addSpace(int c) {
        int[] names = {0, 1, 2, 3, 4, 5, 6, 7};
        if (below(2) == 0) {
            for (int i = 7; i > 0; i--) {
                int j = below(i + 1);
                int name = names[i];
                names[i] = names[j];
                names[j] = name;
            }
        }
        for (int set : SPACES[below(SPACES.length)]) {
            int renamed = 0;
            for (int v = 0; v < 8; v++) {
                renamed |= (set >> v & 1) << names[v];
            }
            add(c, renamed);
        }
    }

    private void askSimplices(int c, int k) {
        due("count(" + c + ", " + k + ")", program.count(c, k), oracle.count(c, k));
        due("euler(" + c + ")", program.euler(c), oracle.euler(c));
        for (int turn = 0; turn < 4; turn++) {
            int i = seldomWrong(10);
            int j = seldomWrong(10);
            due("simplex(" + c + ", " + k + ", " + i + ")", program.simplex(c, k, i), oracle.simplex(c, k, i));
            due("incidence(" + c + ", " + k + ", " + i + ", " + j + ")",
                    program.incidence(c, k, i, j), oracle.incidence(c, k, i, j));
        }
    }

    private void askHoles(int c, int k) {
        int i = below(3) - below(2);
        int p = seldomWrong(14);
        due("betti(" + c + ", " + k + ")", program.betti(c, k), oracle.betti(c, k));
        due("torsion(" + c + ", " + k + ", " + i + ")", program.torsion(c, k, i), oracle.torsion(c, k, i));
        due("torsion(" + c + ", 1, 0)", program.torsion(c, 1, 0), oracle.torsion(c, 1, 0));
        due("bettiModulo(" + c + ", " + k + ", " + p + ")",
                program.bettiModulo(c, k, p), oracle.bettiModulo(c, k, p));
        due("bettiModulo(" + c + ", " + k + ", 2)", program.bettiModulo(c, k, 2), oracle.bettiModulo(c, k, 2));
    }

    private void askChains(int c, int k) {
        due("order(" + c + ", " + k + ")", program.order(c, k), oracle.order(c, k));
        int set = simplexOf(c == 1 ? 1 : 0);
        due("get(" + c + ", " + set + ")", program.get(c, set), oracle.get(c, set));
        due("boundary(" + c + ", " + set + ")", program.boundary(c, set), oracle.boundary(c, set));
    }

    /** Makes the kept chain of a dimension the boundary of a random one, as far as -9 .. 9 goes. */
    private void putBoundary(int c, int k) {
        for (int i = 0; i < oracle.count(c, k + 1); i++) {
            put(c, oracle.simplex(c, k + 1, i), below(5) - 2);
        }
        int[] sums = new int[oracle.count(c, k)];
        for (int i = 0; i < sums.length; i++) {
            sums[i] = oracle.boundary(c, oracle.simplex(c, k, i));
        }
        for (int i = 0; i < sums.length; i++) {
            put(c, oracle.simplex(c, k, i), sums[i]);
        }
        askChains(c, k);
    }

    /** Makes the kept chain of edges a random way that ends where it began, if it finds back. */
    private void putWalk(int c) {
        for (int i = 0; i < oracle.count(c, 1); i++) {
            put(c, oracle.simplex(c, 1, i), 0);
        }
        int first = below(8);
        int at = first;
        int times = 1 + below(3);
        for (int turn = 0; turn < 60; turn++) {
            int next = turn % 4 == 3 ? first : below(8);
            int edge = 1 << at | 1 << next;
            int x = oracle.get(c, edge) + (at < next ? times : -times);
            if (next != at && oracle.put(c, edge, x)) {
                due("put(" + c + ", " + edge + ", " + x + ")", program.put(c, edge, x), true);
                at = next;
                if (at == first && turn > 2) {
                    break;
                }
            }
        }
        askChains(c, 1);
    }

    private void mapAll() {
        int kind = below(4);
        int shift = below(7);
        for (int v = 0; v < 8; v++) {
            int w = kind == 0 ? v : kind == 1 && v < 7 ? (v + shift) % 7 : kind == 2 ? shift : below(8);
            map(v, w);
        }
    }

    private void askMap(int k) {
        due("simplicial()", program.simplicial(), oracle.simplicial());
        due("rank(" + k + ")", program.rank(k), oracle.rank(k));
        int set = simplexOf(1);
        due("image(" + set + ")", program.image(set), oracle.image(set));
    }
}
