import java.util.ArrayList;
import java.util.HashSet;
import java.util.List;

/**
 * All that calls can show of an object. An object may be used for 512 calls alone, so the questions are put to several
 * objects, on each of which the same calls have been made before.
 */
final class Shown {
    private static final int CALLS = 512;
    private static final List<Call> QUESTIONS = questions();

    private final List<String> answers = new ArrayList<>();

    private Shown() {
    }

    /** What calls bring about, and what later ones answer and bring about after them. */
    static Shown after(List<Call> calls, List<Call> later) {
        Shown shown = new Shown();
        int atOnce = CALLS - calls.size() - later.size();
        for (int first = 0; first < QUESTIONS.size(); first += atOnce) {
            HoleCounter x = new HoleCounter();
            calls.forEach(call -> call.on(x));
            shown.ask(x, later);
            shown.ask(x, QUESTIONS.subList(first, Math.min(first + atOnce, QUESTIONS.size())));
        }
        return shown;
    }

    private void ask(HoleCounter x, List<Call> calls) {
        for (Call call : calls) {
            answers.add(call + " is " + call.on(x));
        }
    }

    /**
     * The first answer of the other one that was not given here, or nothing. How many objects it took, and so how often the
     * later calls were made, does not count.
     */
    String difference(Shown other) {
        List<String> others = new ArrayList<>(other.answers);
        others.removeAll(new HashSet<>(answers));
        return others.isEmpty() ? "" : others.get(0);
    }

    private static List<Call> questions() {
        List<Call> list = new ArrayList<>();
        list.add(new Call("simplicial"));
        for (int k = 0; k < 4; k++) {
            list.add(new Call("rank", k));
        }
        for (int set = 1; set < 256; set++) {
            list.add(new Call("image", set));
        }
        for (int c = 0; c < 2; c++) {
            askComplex(list, c);
            for (int k = 0; k < 4; k++) {
                askDimension(list, c, k);
            }
        }
        return list;
    }

    private static void askComplex(List<Call> list, int c) {
        list.add(new Call("euler", c));
        list.add(new Call("products", c));
        for (int set = 1; set < 256; set++) {
            list.add(new Call("get", c, set));
            list.add(new Call("boundary", c, set));
        }
    }

    private static void askDimension(List<Call> list, int c, int k) {
        list.add(new Call("count", c, k));
        list.add(new Call("betti", c, k));
        list.add(new Call("order", c, k));
        for (int p : new int[] {2, 3, 5, 7, 11, 13}) {
            list.add(new Call("bettiModulo", c, k, p));
        }
        for (int i = 0; i < 3; i++) {
            list.add(new Call("torsion", c, k, i));
        }
        for (int i = 0; i < 24; i++) {
            list.add(new Call("simplex", c, k, i));
        }
        for (int place = 0; place < 64; place++) {
            list.add(new Call("incidence", c, k, place % 8, place / 8));
        }
    }
}
