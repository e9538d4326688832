/** Promise 4: base. */
public final class Promise04BaseTest {
    private static final Check C = new Check("promise 4");

    public static void main(String[] args) {
        numbers();
        ofOnePartOfOneProfile();
        others();
        C.end();
    }

    private static void numbers() {
        C.sentence("of each part p (0 .. 4) a BASE (-20000 .. 20000)");
        int[] taken = {-20000, -19999, -1, 0, 1, 19999, 20000};
        for (int part = 0; part < 5; part++) {
            BellFoundry f = Making.rich();
            f.profile(1);
            for (int i = 0; i < taken.length; i++) {
                C.yes("base " + taken[i] + " of part " + part, f.base(0, part, taken[i]));
                f.cast(0);
                C.due("told", f.bellOf(i, part), taken[i]);
            }
        }
        for (int v : Twins.others(-20001, 20001)) {
            for (int part = 0; part < 5; part++) {
                int of = part;
                Twins.refuses(C, "base " + v + " of part " + part, Making::busy, f -> f.base(0, of, v));
            }
            Twins.refuses(C, "base " + v + " of profile 1", Making::busy, f -> f.base(1, 0, v));
        }
    }

    private static void ofOnePartOfOneProfile() {
        C.sentence("A BASE: true.");
        BellFoundry f = Making.rich();
        for (int p = 0; p < 4; p++) {
            f.profile(1);
        }
        for (int p = 0; p < 4; p++) {
            for (int part = 0; part < 5; part++) {
                C.yes("base", f.base(p, part, 100 * p + part + 1));
            }
        }
        for (int p = 0; p < 4; p++) {
            f.cast(p);
            for (int part = 0; part < 5; part++) {
                C.due("base of part " + part + " by " + p, f.bellOf(p, part), 100 * p + part + 1);
            }
        }
    }

    private static void others() {
        C.sentence("False for others.");
        for (int profile : Twins.others(-2, -1, 2, 3, 4)) {
            Twins.refuses(C, "profile " + profile, Making::busy, f -> f.base(profile, 0, 4));
        }
        for (int part : Twins.others(-2, -1, 5, 6, 7)) {
            Twins.refuses(C, "part " + part, Making::busy, f -> f.base(0, part, 4));
            Twins.refuses(C, "part " + part + " of profile 1", Making::busy, f -> f.base(1, part, 4));
        }
        Twins.refuses(C, "profile 4 of four", Making::fourProfiles, f -> f.base(4, 0, 4));
        C.yes("profile 3 of four", Making.fourProfiles().base(3, 4, 4));
    }
}
