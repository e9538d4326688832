/** Counts and prints the answers of a test that are not the ones due, each under the document's sentence it tests. */
final class Check {
    private final String test;
    private String sentence = "";
    private int checked;
    private int wrong;

    Check(String test) {
        this.test = test;
    }

    /** The document's words that the checks from here on are about. */
    void sentence(String words) {
        sentence = " \"" + words + "\"";
    }

    void due(String what, long got, long want) {
        checked++;
        if (got != want) {
            wrong++;
            System.out.println(test + sentence + ": " + what + " answered " + got + ", due is " + want);
        }
    }

    void yes(String what, boolean got) {
        due(what, got ? 1 : 0, 1);
    }

    void no(String what, boolean got) {
        due(what, got ? 1 : 0, 0);
    }

    /** Two texts in pieces with a bar between them; prints the pieces that differ. */
    void same(String what, String got, String want) {
        checked++;
        if (got.equals(want)) {
            return;
        }
        wrong++;
        System.out.println(test + sentence + ": " + what + " told");
        String[] told = got.split("\\|");
        String[] due = want.split("\\|");
        for (int i = 0; i < Math.max(told.length, due.length); i++) {
            String one = i < told.length ? told[i] : "nothing";
            String other = i < due.length ? due[i] : "nothing";
            if (!one.equals(other)) {
                System.out.println("  " + one + "\n  due is " + other);
            }
        }
    }

    int wrongSoFar() {
        return wrong;
    }

    /** Ends the program with 1 if an answer was wrong, or if nothing was checked at all. */
    void end() {
        System.out.println(test + ": " + checked + " answers, " + wrong + " wrong");
        if (wrong != 0 || checked == 0) {
            System.exit(1);
        }
    }
}
