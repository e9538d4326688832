/** Promise 6: cast. */
public final class Promise06CastTest {
    private static final Check C = new Check("promise 6");

    public static void main(String[] args) {
        itsNumber();
        noSuchProfile();
        thereAre24();
        copperLacks();
        tinLacks();
        metalLacksBehindTheHeap();
        aBellOfNothing();
        C.end();
    }

    private static void itsNumber() {
        C.sentence("A bell is cast: its number.");
        BellFoundry f = Making.rich();
        for (int p = 0; p < 4; p++) {
            f.profile(p);
        }
        for (int b = 0; b < 24; b++) {
            C.due("cast", f.cast(b % 4), b);
            C.due("so many", f.about(1), b + 1);
            C.due("its profile", f.bellOf(b, 18), b % 4);
            C.due("the next isn't there", f.bellOf(b + 1, 18), -100000);
        }
    }

    private static void noSuchProfile() {
        C.sentence("NONE: no such PROFILE");
        for (int profile : Twins.others(-2, -1, 2, 3, 4)) {
            Twins.none(C, "cast(" + profile + ")", Making::busy, f -> f.cast(profile));
        }
        Twins.none(C, "cast(4) of four", Making::fourProfiles, f -> f.cast(4));
        C.due("cast(3) of four", Making.fourProfiles().cast(3), 4);
    }

    private static void thereAre24() {
        C.sentence("there are 24");
        Twins.none(C, "a 25th", Making::fullOfBells, f -> f.cast(0));
        Twins.none(C, "a 25th", Making::fullOfBells, f -> f.cast(1));
        BellFoundry f = Making.withBells(1);
        for (int b = 1; b < 23; b++) {
            f.cast(0);
        }
        C.due("the 24th", f.cast(0), 23);
        C.due("a 25th", f.cast(0), -1);
        C.due("24 bells", f.about(1), 24);
        C.due("metal of 24", f.about(2), 1000000 - 24);
        C.due("no bell 24", f.bellOf(24, 5), -100000);
        f.crack(5);
        C.due("a cracked one keeps its place", f.cast(0), -1);
        C.due("its metal stays in the heap", f.about(4), 1);
    }

    private static BellFoundry stored(int copper, int tin) {
        BellFoundry f = new BellFoundry();
        f.profile(100);
        f.buy(copper, tin);
        return f;
    }

    private static void copperLacks() {
        C.sentence("or metal lacks");
        Twins.none(C, "76 of 77", () -> stored(76, 1000), f -> f.cast(0));
        Twins.none(C, "none", () -> stored(0, 1000), f -> f.cast(0));
        BellFoundry f = stored(77, 1000);
        C.due("77", f.cast(0), 0);
        C.due("no copper left", f.about(2), 0);
        C.due("tin", f.about(3), 977);
        C.due("another", f.cast(0), -1);
    }

    private static void tinLacks() {
        C.sentence("or metal lacks");
        Twins.none(C, "22 of 23", () -> stored(1000, 22), f -> f.cast(0));
        Twins.none(C, "none", () -> stored(1000, 0), f -> f.cast(0));
        BellFoundry f = stored(1000, 23);
        C.due("23", f.cast(0), 0);
        C.due("no tin left", f.about(3), 0);
        C.due("copper", f.about(2), 923);
        C.due("another", f.cast(0), -1);
    }

    /** 60 in the heap of the 100 that are needed: of the other 40, copper 31 and tin 9. */
    private static BellFoundry withHeap(int copper, int tin) {
        BellFoundry f = new BellFoundry();
        f.profile(60);
        f.profile(100);
        f.buy(47, 13);
        f.cast(0);
        f.crack(0);
        f.buy(copper, tin);
        return f;
    }

    private static void metalLacksBehindTheHeap() {
        C.sentence("or metal lacks");
        Twins.none(C, "30 of 31", () -> withHeap(30, 100), f -> f.cast(1));
        Twins.none(C, "8 of 9", () -> withHeap(100, 8), f -> f.cast(1));
        BellFoundry f = withHeap(31, 9);
        C.due("just enough", f.cast(1), 1);
        for (int what = 2; what <= 4; what++) {
            C.due("nothing is left", f.about(what), 0);
        }
        C.due("metal of bells", f.about(5), 100);
    }

    private static void aBellOfNothing() {
        C.sentence("A bell is cast: its number.");
        BellFoundry f = new BellFoundry();
        f.profile(0);
        C.due("no metal is needed", f.cast(0), 0);
        C.due("its weight", f.bellOf(0, 5), 0);
        C.due("copper", f.about(2), 0);
        C.due("tin", f.about(3), 0);
    }
}
