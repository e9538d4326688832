/** Promises 1 to 4: a new object, profile, shape, base. */
public final class ProfilesTest {
    private static final Check C = new Check("profiles");
    private static final int[] FAR = {Integer.MIN_VALUE, -1, Integer.MAX_VALUE};

    public static void main(String[] args) {
        newObject();
        profile();
        shapeRanges();
        leastAndThickness();
        shapeRefuses();
        base();
        atFirst();
        C.end();
    }

    private static void newObject() {
        BellFoundry f = new BellFoundry();
        for (int what = 0; what <= 14; what++) {
            C.due("new: about(" + what + ")", f.about(what), 0);
        }
        C.due("new: cast(0)", f.cast(0), -1);
        C.due("new: bellOf(0, 0)", f.bellOf(0, 0), -100000);
        C.due("new: ringWeight", f.ringWeight(), -1);
        C.due("new: ringBell(0)", f.ringBell(0), -1);
        C.no("new: shape", f.shape(0, 0, 0, 0));
        C.no("new: base", f.base(0, 0, 0));
        new BellFoundry().profile(1);
        C.due("objects share nothing", f.about(0), 0);
    }

    private static void profile() {
        BellFoundry f = new BellFoundry();
        C.due("profile(-1)", f.profile(-1), -1);
        C.due("profile(5001)", f.profile(5001), -1);
        C.due("profile(least int)", f.profile(Integer.MIN_VALUE), -1);
        C.due("no profile came", f.about(0), 0);
        C.due("profile(0)", f.profile(0), 0);
        C.due("profile(5000)", f.profile(5000), 1);
        C.due("profile(7)", f.profile(7), 2);
        C.due("refused between", f.profile(5001), -1);
        C.due("profile(8)", f.profile(8), 3);
        C.due("a fifth", f.profile(8), -1);
        C.due("four", f.about(0), 4);
        C.no("shape of a fifth", f.shape(4, 0, 0, 0));
        C.no("base of a fifth", f.base(4, 0, 0));
        C.due("cast of a fifth", f.cast(4), -1);
        f.buy(1000000, 1000000);
        int[] weights = {0, 5000, 7, 8};
        for (int p = 0; p < 4; p++) {
            C.due("cast " + p, f.cast(p), p);
            C.due("weight of " + p, f.bellOf(p, 5), weights[p]);
            C.due("profile of " + p, f.bellOf(p, 18), p);
        }
    }

    private static void shapeRanges() {
        int[] from = {-50, -50, -50, -50, -50, 1, 0, 0};
        int[] to = {50, 50, 50, 50, 50, 50, 99, 99};
        for (int h = 0; h < 8; h++) {
            BellFoundry f = new BellFoundry();
            f.profile(0);
            C.yes("thickness 99 at " + h, f.shape(0, 7, h, 99));
            for (int what = 0; what < 7; what++) {
                C.no("below: " + what + " at " + h, f.shape(0, what, h, from[what] - 1));
                C.no("above: " + what + " at " + h, f.shape(0, what, h, to[what] + 1));
                C.yes("least: " + what + " at " + h, f.shape(0, what, h, from[what]));
                C.yes("most: " + what + " at " + h, f.shape(0, what, h, to[what]));
            }
            C.no("thickness 100", f.shape(0, 7, h, 100));
            f.buy(1000000, 1000000);
            f.cast(0);
            C.due("weight, metal at " + h, f.bellOf(0, 5), 50 * 99);
            for (int p = 0; p < 5; p++) {
                C.due("part " + p, f.bellOf(0, p), 50 * 99);
            }
            C.due("least is thickness", f.cut(0, h), -1);
        }
    }

    private static void leastAndThickness() {
        BellFoundry f = new BellFoundry();
        f.profile(0);
        C.no("least 1 of thickness 0", f.shape(0, 6, 3, 1));
        C.yes("least 0 of thickness 0", f.shape(0, 6, 3, 0));
        C.no("thickness -1", f.shape(0, 7, 3, -1));
        C.yes("thickness 10", f.shape(0, 7, 3, 10));
        C.no("least of another height", f.shape(0, 6, 4, 1));
        C.no("least 11", f.shape(0, 6, 3, 11));
        C.yes("least 10", f.shape(0, 6, 3, 10));
        C.no("thickness 9 under least 10", f.shape(0, 7, 3, 9));
        C.yes("thickness 10 again", f.shape(0, 7, 3, 10));
        C.yes("least 8", f.shape(0, 6, 3, 8));
        C.yes("thickness 9", f.shape(0, 7, 3, 9));
        f.buy(1000, 1000);
        f.cast(0);
        C.due("thickness", f.bellOf(0, 13), 9);
        C.due("metal 1 at first", f.bellOf(0, 5), 9);
        C.due("cut to least", f.cut(0, 3), 8);
        C.due("not below it", f.cut(0, 3), -1);
    }

    private static void shapeRefuses() {
        BellFoundry f = new BellFoundry();
        f.profile(10);
        f.buy(1000, 1000);
        f.cast(0);
        for (int far : FAR) {
            C.no("profile " + far, f.shape(far, 0, 0, 1));
            C.no("what " + far, f.shape(0, far, 0, 1));
            C.no("height " + far, f.shape(0, 0, far, 1));
            C.no("base of profile " + far, f.base(far, 0, 1));
            C.no("base of part " + far, f.base(0, far, 1));
        }
        for (int what = 0; what < 8; what++) {
            C.no("v of " + what, f.shape(0, what, 0, Integer.MIN_VALUE));
            C.no("v of " + what, f.shape(0, what, 0, Integer.MAX_VALUE));
        }
        C.no("profile 1", f.shape(1, 0, 0, 1));
        C.no("what 8", f.shape(0, 8, 0, 1));
        C.no("height 8", f.shape(0, 0, 8, 1));
        C.no("height 8 of thickness", f.shape(0, 7, 8, 1));
        f.cast(0);
        for (int what = 0; what < 18; what++) {
            C.due("nothing changed: " + what, f.bellOf(1, what), f.bellOf(0, what));
        }
    }

    private static void base() {
        BellFoundry f = new BellFoundry();
        f.profile(1);
        f.profile(1);
        f.buy(100, 100);
        for (int p = 0; p < 5; p++) {
            C.yes("base " + p, f.base(1, p, p % 2 == 0 ? -20000 : 20000));
            C.no("base below", f.base(1, p, -20001));
            C.no("base above", f.base(1, p, 20001));
        }
        C.no("part 5", f.base(1, 5, 1));
        C.no("part -1", f.base(1, -1, 1));
        C.no("profile 2", f.base(2, 0, 1));
        f.cast(1);
        f.cast(0);
        for (int p = 0; p < 5; p++) {
            C.due("part is base " + p, f.bellOf(0, p), p % 2 == 0 ? -20000 : 20000);
            C.due("another profile " + p, f.bellOf(1, p), 0);
        }
    }

    private static void atFirst() {
        BellFoundry f = new BellFoundry();
        f.profile(3);
        f.buy(10, 10);
        C.due("cast as at first", f.cast(0), 0);
        for (int h = 0; h < 8; h++) {
            C.due("thickness 0 at first", f.bellOf(0, 10 + h), 0);
            C.due("nothing to cut at first", f.cut(0, h), -1);
        }
        C.due("weight of the rest", f.bellOf(0, 5), 3);
    }
}
