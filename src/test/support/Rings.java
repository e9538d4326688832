/** Checks of what a foundry's ring is told to be. */
final class Rings {
    private Rings() {
    }

    static void due(Check c, String what, BellFoundry f, int weight, int... bells) {
        c.due(what, f.ringWeight(), weight);
        for (int i = 0; i < bells.length; i++) {
            c.due(what + ", note " + i, f.ringBell(i), bells[i]);
        }
        c.due(what + ", behind the last", f.ringBell(bells.length), -1);
    }

    static void dueNone(Check c, String what, BellFoundry f) {
        c.due(what, f.ringWeight(), -1);
        for (int i = 0; i < 8; i++) {
            c.due(what + ", note " + i, f.ringBell(i), -1);
        }
    }
}
