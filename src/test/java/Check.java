/** Counts the answers that are not as due and prints each. */
final class Check {
    private static final int MOST_PRINTED = 40;
    private final String test;
    private int looked;
    private int wrong;

    Check(String test) {
        this.test = test;
    }

    void due(String what, long got, long want) {
        looked++;
        if (got != want) say(what + " answered " + got + ", due is " + want);
    }

    void holds(String what, boolean holds) {
        looked++;
        if (!holds) say(what + " does not hold");
    }

    private void say(String text) {
        wrong++;
        if (wrong <= MOST_PRINTED) System.out.println(test + ": " + text);
    }

    int wrong() {
        return wrong;
    }

    /** Ends the test's program with exit code 1 if anything was wrong, or nothing was looked at. */
    void end() {
        System.out.println(test + ": " + looked + " looked at, " + wrong + " wrong");
        if (wrong > 0 || looked == 0) System.exit(1);
    }
}
