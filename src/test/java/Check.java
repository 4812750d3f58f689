/** Counts the answers that are not as due, and ends a test with exit code 1 if there was one. */
final class Check {
    private final String test;
    private int wrong;
    private int looked;

    Check(String test) {
        this.test = test;
    }

    void due(String call, int got, int want) {
        looked++;
        if (got != want) say(call + " answered " + got + ", due is " + want);
    }

    void isTrue(String what, boolean holds) {
        looked++;
        if (!holds) say(what);
    }

    void say(String what) {
        wrong++;
        if (wrong <= 20) System.out.println(test + ": " + what);
    }

    int wrong() {
        return wrong;
    }

    void end() {
        System.out.println(test + ": " + looked + " looked at, " + wrong + " wrong");
        if (wrong != 0 || looked == 0) System.exit(1);
    }
}
