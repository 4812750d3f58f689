/** Counts the answers that are not as due, and ends a test with exit code 1 if there was one. */
final class Check {
    private final String test;
    private String sentence = "";
    private int wrong;
    private int looked;
    private int lookedAhead;

    Check(String test) {
        this.test = test;
    }

    /** What follows tests this sentence of the document, until the next one is named; at least one answer must. */
    void sentence(String words) {
        closeSentence();
        sentence = words;
        lookedAhead = looked;
    }

    private void closeSentence() {
        if (!sentence.isEmpty() && looked == lookedAhead) say("nothing was looked at");
        sentence = "";
    }

    void due(String call, int got, int want) {
        looked++;
        if (got != want) say(call + " answered " + got + ", due is " + want);
    }

    /** One answer behind another of one call: the answers of several calls, say, of one for each cell. */
    void due(String call, int[] got, int... want) {
        looked++;
        if (!java.util.Arrays.equals(got, want)) {
            say(call + " answered " + java.util.Arrays.toString(got) + ", due is " + java.util.Arrays.toString(want));
        }
    }

    void isTrue(String what, boolean holds) {
        looked++;
        if (!holds) say(what);
    }

    void say(String what) {
        wrong++;
        if (wrong <= 20) System.out.println(test + ": " + (sentence.isEmpty() ? "" : "'" + sentence + "': ") + what);
    }

    int wrong() {
        return wrong;
    }

    void end() {
        closeSentence();
        System.out.println(test + ": " + looked + " looked at, " + wrong + " wrong");
        if (wrong != 0 || looked == 0) System.exit(1);
    }
}
