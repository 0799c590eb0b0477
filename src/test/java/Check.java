/** Counts the answers of a test that are not the ones due, and tells of each. */
final class Check {
    private final String test;
    private String sentence = "";
    private int right = 0;
    private int wrong = 0;

    Check(String test) {
        this.test = test;
    }

    /** The document's sentence that the answers from here on are due by. */
    void under(String words) {
        sentence = "\"" + words + "\": ";
    }

    void due(String call, long got, long want) {
        if (got == want) {
            right++;
        } else {
            wrong++;
            System.out.println(test + ": " + sentence + call + " answered " + got + ", due is " + want);
        }
    }

    void due(String call, boolean got, boolean want) {
        due(call, got ? 1 : 0, want ? 1 : 0);
    }

    /** So that a long run tells of its first fault alone: what follows it may be wrong only because of that. */
    boolean allRight() {
        return wrong == 0;
    }

    void finish() {
        System.out.println(test + ": " + right + " answers as due, " + wrong + " not");
        if (wrong != 0) {
            System.exit(1);
        }
    }
}
