/** Counts and prints the answers of a test that are not the ones due. */
final class Check {
    private final String test;
    private int checked;
    private int wrong;

    Check(String test) {
        this.test = test;
    }

    void due(String what, long got, long want) {
        checked++;
        if (got != want) {
            wrong++;
            System.out.println(test + ": " + what + " answered " + got + ", due is " + want);
        }
    }

    void yes(String what, boolean got) {
        due(what, got ? 1 : 0, 1);
    }

    void no(String what, boolean got) {
        due(what, got ? 1 : 0, 0);
    }

    int wrongSoFar() {
        return wrong;
    }

    /** Ends the program with 1 if an answer was wrong, or if nothing was checked at all. */
    void end() {
        System.out.println(test + ": " + checked + " answers, " + wrong + " wrong");
        if (wrong != 0 || checked == 0) {
            System.exit(1);
        }
    }
}
