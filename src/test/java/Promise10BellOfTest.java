/** Promise 10: bellOf. */
public final class Promise10BellOfTest {
    private static final Check C = new Check("promise 10");

    public static void main(String[] args) {
        ofABell();
        heaviestAndFarthest();
        oldCrackedWayAndPull();
        others();
        changesNothing();
        C.end();
    }

    private static void ofABell() {
        C.sentence("0 .. 4 its parts, 5 its weight, .. 10 .. 17 its thicknesses, 18 its PROFILE");
        BellFoundry f = Making.rich();
        f.profile(1);
        f.profile(77);
        for (int h = 0; h < 8; h++) {
            Making.height(f, 1, h, 90 - h, 0, 50, -50, h, -h, 0);
            f.shape(1, 5, h, 3);
        }
        for (int p = 0; p < 5; p++) {
            f.base(1, p, 1000 * p);
        }
        f.cast(1);
        int units = 8 * 90 - 28;
        int sloping = 0;
        for (int h = 0; h < 8; h++) {
            sloping += h * (90 - h);
        }
        int[] due = {50 * units, 1000 - 50 * units, 2000 + sloping, 3000 - sloping, 4000, 77 + 3 * units, 0, 0, -1, 0,
            90, 89, 88, 87, 86, 85, 84, 83, 1};
        for (int what = 0; what < due.length; what++) {
            C.due("bellOf(0, " + what + ")", f.bellOf(0, what), due[what]);
        }
    }

    private static void heaviestAndFarthest() {
        C.sentence("0 .. 4 its parts, 5 its weight");
        BellFoundry f = Making.rich();
        f.profile(5000);
        for (int h = 0; h < 8; h++) {
            Making.height(f, 0, h, 99, 0, 50, -50);
            f.shape(0, 5, h, 50);
        }
        f.base(0, 0, 20000);
        f.base(0, 1, -20000);
        f.cast(0);
        C.due("the most", f.bellOf(0, 0), 59600);
        C.due("the least", f.bellOf(0, 1), -59600);
        C.due("the heaviest", f.bellOf(0, 5), 44600);
        f.tower(4, 300, 1000000);
        f.hang(0, 4);
        C.due("the strongest pull", f.bellOf(0, 9), 133800);
    }

    private static void oldCrackedWayAndPull() {
        C.sentence("6 whether it is OLD, 7 CRACKED, 8 the WAY by which it hangs (NONE), 9 its pull (0 if it doesn't hang)");
        BellFoundry f = Making.withBells(101);
        f.tower(0, 10, 1000);
        f.tower(4, 50, 1000);
        int[] waits = {0, 0, -1, 0};
        told(f, "at first", waits);
        f.hang(0, 0);
        told(f, "hung by 0", 0, 0, 0, 10);
        f.hang(0, 4);
        told(f, "hung by 4", 0, 0, 4, 50);
        f.old(0);
        told(f, "old", 1, 0, 4, 50);
        f.tower(4, 51, 1000);
        told(f, "another share", 1, 0, 4, 51);
        f.hang(0, 3);
        told(f, "hung by a share of 0", 1, 0, 3, 0);
        f.hang(0, -1);
        told(f, "taken down", 1, 0, -1, 0);
        f.hang(0, 4);
        f.crack(0);
        told(f, "cracked", 1, 1, -1, 0);
    }

    private static void told(BellFoundry f, String when, int... due) {
        for (int i = 0; i < 4; i++) {
            C.due(when + ": bellOf(0, " + (6 + i) + ")", f.bellOf(0, 6 + i), due[i]);
        }
    }

    private static void others() {
        C.sentence("-100000 for others.");
        for (int what : Twins.others(-2, -1, 19, 20)) {
            for (int bell = 0; bell < 4; bell++) {
                int of = bell;
                Twins.leaves(C, "what " + what + " of " + bell, Making::busy, -100000, f -> f.bellOf(of, what));
            }
        }
        for (int bell : Twins.others(-2, -1, 4, 5, 23, 24)) {
            BellFoundry f = Making.busy();
            for (int what = -1; what <= 19; what++) {
                C.due("bellOf(" + bell + ", " + what + ")", f.bellOf(bell, what), -100000);
            }
        }
        BellFoundry full = Making.fullOfBells();
        C.due("bell 23", full.bellOf(23, 18), 1);
        C.due("bell 24", full.bellOf(24, 18), -100000);
    }

    private static void changesNothing() {
        C.sentence("Of a bell");
        for (int what = 0; what <= 18; what++) {
            int of = what;
            Twins.leaves(C, "bellOf(0, " + what + ")", Making::busy, Making.busy().bellOf(0, what), f -> f.bellOf(0, of));
        }
    }
}
