/** Checks of what bell 0's tuning is told to be. */
final class Cuts {
    private Cuts() {
    }

    /** So many cuts at the heights from 0 on, none at those not named. */
    static void due(Check c, String what, BellFoundry f, int... cuts) {
        int together = 0;
        for (int h = 0; h < 8; h++) {
            int at = h < cuts.length ? cuts[h] : 0;
            together += at;
            c.due(what + ", at " + h, f.tuningAt(0, h), at);
        }
        c.due(what, f.tuning(0), together);
    }

    static void dueNone(Check c, String what, BellFoundry f) {
        c.due(what, f.tuning(0), -1);
        for (int h = 0; h < 8; h++) {
            c.due(what + ", at " + h, f.tuningAt(0, h), -1);
        }
    }
}
