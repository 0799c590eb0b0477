import java.util.ArrayList;
import java.util.List;

/**
 * Every call with every mixture of arguments at their bounds and far out of them, against the oracle, in an empty, an
 * ordinary and a full state: so two wrong arguments at once, too, and wrong ones that would wrap round to right ones.
 */
public final class ArgumentsTest {
    private static final int CALLS = 512;
    private static final int LOW = Integer.MIN_VALUE;
    private static final int HIGH = Integer.MAX_VALUE;
    private static final int[] COMPLEXES = {LOW, LOW + 1, -1, 0, 1, 2, 256, HIGH};
    private static final int[] DIMENSIONS = {LOW, LOW + 1, -1, 0, 1, 2, 3, 4, 5, HIGH};
    private static final int[] PLACES = {LOW, -1, 0, 1, 7, 8, 23, 24, 25, 1 << 30, HIGH};
    private static final int[] SETS = {
        LOW, LOW + 1, -256, -2, -1, 0, 1, 3, 7, 15, 31, 33, 67, 85, 128, 192, 224, 240, 248, 255, 256, 257, 263, 1 << 16,
        HIGH
    };
    private static final int[] NUMBERS = {LOW, -256, -10, -9, -1, 0, 1, 9, 10, 247, HIGH};
    private static final int[] PRIMES = {LOW, -3, -2, -1, 0, 1, 2, 3, 4, 5, 7, 9, 11, 13, 15, 17, 258, HIGH - 18, HIGH};
    private static final int[] VERTICES = {LOW, -8, -1, 0, 1, 3, 4, 6, 7, 8, 32, HIGH};

    private static final Check CHECK = new Check("ArgumentsTest");

    private final List<Call> state;
    private HoleCounter program;
    private Oracle oracle;
    private int calls = CALLS;

    private ArgumentsTest(List<Call> state) {
        this.state = state;
    }

    public static void main(String[] args) {
        for (List<Call> state : List.of(List.<Call>of(), ordinary(), full())) {
            new ArgumentsTest(state).run();
        }
        CHECK.finish();
    }

    private static List<Call> ordinary() {
        List<Call> calls = new ArrayList<>();
        for (int set : Spaces.PLANE) {
            calls.add(new Call("add", 0, set));
            calls.add(new Call("add", 1, set));
        }
        for (int edge : new int[] {3, 18, 17}) {
            calls.add(new Call("put", 0, edge, edge == 17 ? -1 : 1));
            calls.add(new Call("put", 1, edge, edge == 17 ? 0 : 1));
        }
        return calls;
    }

    private static List<Call> full() {
        List<Call> calls = new ArrayList<>();
        for (int set : Spaces.CUBE) {
            calls.add(new Call("add", 0, set));
            calls.add(new Call("add", 1, set));
            calls.add(new Call("put", 0, set, 9));
        }
        for (int v = 0; v < 8; v++) {
            calls.add(new Call("map", v, v ^ 4));
        }
        return calls;
    }

    private void run() {
        mix("add", COMPLEXES, SETS);
        mix("clear", COMPLEXES);
        mix("count", COMPLEXES, DIMENSIONS);
        mix("simplex", COMPLEXES, DIMENSIONS, PLACES);
        mix("incidence", COMPLEXES, DIMENSIONS, PLACES, PLACES);
        mix("euler", COMPLEXES);
        mix("betti", COMPLEXES, DIMENSIONS);
        mix("torsion", COMPLEXES, DIMENSIONS, PLACES);
        mix("bettiModulo", COMPLEXES, DIMENSIONS, PRIMES);
        mix("put", COMPLEXES, SETS, NUMBERS);
        mix("get", COMPLEXES, SETS);
        mix("boundary", COMPLEXES, SETS);
        mix("order", COMPLEXES, DIMENSIONS);
        mix("map", VERTICES, VERTICES);
        mix("simplicial");
        mix("image", SETS);
        mix("rank", DIMENSIONS);
        mix("products", COMPLEXES);
    }

    private void mix(String name, int[]... choices) {
        start();
        mixOn(name, new int[choices.length], 0, choices);
    }

    private void mixOn(String name, int[] arguments, int chosen, int[][] choices) {
        if (chosen == choices.length) {
            ask(new Call(name, arguments.clone()));
            return;
        }
        for (int choice : choices[chosen]) {
            arguments[chosen] = choice;
            mixOn(name, arguments, chosen + 1, choices);
        }
    }

    private void ask(Call call) {
        if (calls == CALLS) {
            start();
        }
        calls++;
        CHECK.due(call.toString(), call.on(program), call.on(oracle));
    }

    private void start() {
        program = new HoleCounter();
        oracle = new Oracle();
        for (Call call : state) {
            call.on(program);
            call.on(oracle);
        }
        calls = state.size();
    }
}
