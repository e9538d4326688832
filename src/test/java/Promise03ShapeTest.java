/** Promise 3: shape. */
public final class Promise03ShapeTest {
    private static final Check C = new Check("promise 3");
    private static final int METAL = 5;
    private static final int LEAST = 6;
    private static final int THICKNESS = 7;

    public static void main(String[] args) {
        tables();
        metal();
        thickness();
        least();
        leastWouldBeAboveThickness();
        ofOneProfileAtOneHeight();
        noSuchProfile();
        noSuchWhat();
        noSuchHeight();
        C.end();
    }

    private static BellFoundry thick() {
        BellFoundry f = Making.rich();
        f.profile(0);
        for (int h = 0; h < 8; h++) {
            f.shape(0, THICKNESS, h, 99);
        }
        return f;
    }

    private static void refused(String call, int what, int h, int... values) {
        for (int v : Twins.others(values)) {
            Twins.refuses(C, call + v, Making::busy, f -> f.shape(0, what, h, v));
            Twins.refuses(C, call + v + " of the other profile", Making::busy, f -> f.shape(1, what, h, v));
        }
    }

    private static void tables() {
        C.sentence("of each height a TABLE number (-50 .. 50)");
        int[] taken = {-50, -49, 0, 49, 50};
        for (int part = 0; part < 5; part++) {
            BellFoundry f = thick();
            for (int h = 0; h < 8; h++) {
                for (int v : taken) {
                    C.yes("part " + part + " at " + h + ": " + v, f.shape(0, part, h, v));
                }
            }
            f.cast(0);
            C.due("part " + part + " by 50 at each height", f.bellOf(0, part), 8 * 50 * 99);
            for (int h = 0; h < 8; h++) {
                f.shape(0, part, h, -50);
            }
            f.cast(0);
            C.due("part " + part + " by -50 at each height", f.bellOf(1, part), -8 * 50 * 99);
            refused("table of part " + part + " ", part, part, -51, 51);
        }
        refused("table of part 0 at the last height ", 0, 7, -51, 51);
    }

    private static void metal() {
        C.sentence("METAL of one unit (1 .. 50)");
        int[] taken = {1, 2, 49, 50};
        for (int v : taken) {
            BellFoundry f = thick();
            for (int h = 0; h < 8; h++) {
                C.yes("metal " + v, f.shape(0, METAL, h, v));
            }
            f.cast(0);
            C.due("weight by metal " + v, f.bellOf(0, 5), 8 * v * 99);
        }
        for (int h = 0; h < 8; h += 7) {
            refused("metal at " + h + ": ", METAL, h, -1, 0, 51);
        }
    }

    private static void thickness() {
        C.sentence("THICKNESS (0 .. 99)");
        int[] taken = {99, 98, 1, 0};
        BellFoundry f = Making.rich();
        f.profile(0);
        for (int i = 0; i < taken.length; i++) {
            for (int h = 0; h < 8; h++) {
                C.yes("thickness " + taken[i] + " at " + h, f.shape(0, THICKNESS, h, taken[i]));
            }
            f.cast(0);
            for (int h = 0; h < 8; h++) {
                C.due("told", f.bellOf(i, 10 + h), taken[i]);
            }
        }
        for (int h = 0; h < 8; h += 7) {
            refused("thickness at " + h + ": ", THICKNESS, h, -1, 100, 101);
        }
    }

    private static void least() {
        C.sentence("LEAST thickness (0 .. THICKNESS)");
        int[] thick = {0, 1, 50, 99};
        for (int t : thick) {
            BellFoundry f = Making.rich();
            f.profile(0);
            for (int h = 0; h < 8; h++) {
                f.shape(0, THICKNESS, h, t);
                C.yes("least " + t + " of " + t, f.shape(0, LEAST, h, t));
                C.no("least " + (t + 1) + " of " + t, f.shape(0, LEAST, h, t + 1));
            }
            f.cast(0);
            for (int h = 0; h < 8; h++) {
                C.due("nothing to cut", f.cut(0, h), -1);
                C.no("least -1", f.shape(0, LEAST, h, -1));
                C.yes("least 0", f.shape(0, LEAST, h, 0));
            }
            f.cast(0);
            C.due("as far as 0", f.cut(1, 3), t == 0 ? -1 : t - 1);
        }
        refused("least at 0: ", LEAST, 0, -1, 6, 99, 100);
        refused("least at 7: ", LEAST, 7, -1, 4, 99, 100);
        refused("least where thickness is 0: ", LEAST, 3, -1, 1);
    }

    private static void leastWouldBeAboveThickness() {
        C.sentence("False, changing nothing, for others, or if LEAST would be above THICKNESS.");
        Twins.refuses(C, "thickness 2 under least 3", Making::busy, f -> f.shape(0, THICKNESS, 0, 2));
        Twins.refuses(C, "thickness 0 under least 3", Making::busy, f -> f.shape(0, THICKNESS, 0, 0));
        Twins.refuses(C, "least 6 over thickness 5", Making::busy, f -> f.shape(0, LEAST, 0, 6));
        Twins.refuses(C, "least 1 over thickness 0", Making::busy, f -> f.shape(0, LEAST, 4, 1));
        BellFoundry f = Making.busy();
        C.yes("thickness 3 of least 3", f.shape(0, THICKNESS, 0, 3));
        C.no("thickness 2 still", f.shape(0, THICKNESS, 0, 2));
        C.no("least 4 by now", f.shape(0, LEAST, 0, 4));
        C.yes("least 2", f.shape(0, LEAST, 0, 2));
        C.yes("thickness 2 by now", f.shape(0, THICKNESS, 0, 2));
        C.yes("least 0", f.shape(0, LEAST, 0, 0));
        C.yes("thickness 0 by now", f.shape(0, THICKNESS, 0, 0));
        C.yes("thickness 99", f.shape(0, THICKNESS, 0, 99));
        C.yes("least 99", f.shape(0, LEAST, 0, 99));
        C.no("thickness 98 by now", f.shape(0, THICKNESS, 0, 98));
    }

    /** Each number another, so that one that went astray is seen. */
    private static void ofOneProfileAtOneHeight() {
        C.sentence("Of a PROFILE at a height (h 0 .. 7): TABLE of part what (0 .. 4), METAL (5), LEAST (6), THICKNESS (7): true.");
        for (int profile = 0; profile < 4; profile++) {
            BellFoundry f = Making.rich();
            for (int p = 0; p < 4; p++) {
                f.profile(0);
            }
            for (int h = 0; h < 8; h++) {
                C.yes("thickness", f.shape(profile, THICKNESS, h, 40 + h));
                C.yes("least", f.shape(profile, LEAST, h, 39 + h));
                C.yes("metal", f.shape(profile, METAL, h, 10 + h));
                for (int part = 0; part < 5; part++) {
                    C.yes("table", f.shape(profile, part, h, 8 * part + h - 20));
                }
            }
            f.cast(profile);
            for (int h = 0; h < 8; h++) {
                C.due("thickness", f.bellOf(0, 10 + h), 40 + h);
                oneCut(f, h);
            }
            for (int other = 0; other < 4; other++) {
                int bell = f.cast(other);
                C.due("thickness by " + other, f.bellOf(bell, 17), other == profile ? 47 : 0);
            }
        }
    }

    private static void oneCut(BellFoundry f, int h) {
        int[] before = new int[6];
        for (int what = 0; what < 6; what++) {
            before[what] = f.bellOf(0, what);
        }
        C.due("a cut", f.cut(0, h), 39 + h);
        C.due("least", f.cut(0, h), -1);
        for (int part = 0; part < 5; part++) {
            C.due("table of part " + part + " at " + h, before[part] - f.bellOf(0, part), 8 * part + h - 20);
        }
        C.due("metal at " + h, before[5] - f.bellOf(0, 5), 10 + h);
    }

    private static void noSuchProfile() {
        C.sentence("False, changing nothing, for others");
        for (int profile : Twins.others(-2, -1, 2, 3, 4)) {
            for (int what = 0; what < 8; what++) {
                int of = what;
                Twins.refuses(C, "profile " + profile + ", " + what, Making::busy, f -> f.shape(profile, of, 0, 4));
            }
        }
        Twins.refuses(C, "profile 4 of four", Making::fourProfiles, f -> f.shape(4, 0, 0, 4));
        C.yes("profile 3 of four", Making.fourProfiles().shape(3, 0, 0, 4));
    }

    private static void noSuchWhat() {
        C.sentence("False, changing nothing, for others");
        for (int what : Twins.others(-2, -1, 8, 9, 10)) {
            for (int h = 0; h < 8; h += 7) {
                int at = h;
                Twins.refuses(C, "what " + what + " at " + h, Making::busy, f -> f.shape(0, what, at, 4));
            }
        }
    }

    private static void noSuchHeight() {
        C.sentence("Of a PROFILE at a height (h 0 .. 7)");
        for (int h : Twins.others(-2, -1, 8, 9)) {
            for (int what = 0; what < 8; what++) {
                int of = what;
                Twins.refuses(C, what + " at height " + h, Making::busy, f -> f.shape(0, of, h, 1));
                Twins.refuses(C, what + " at height " + h, Making::busy, f -> f.shape(1, of, h, 1));
            }
        }
    }
}
