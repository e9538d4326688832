/** Promises 15 to 18: note, ring, ringWeight, ringBell. */
public final class RingTest {
    private static final Check C = new Check("ring");

    public static void main(String[] args) {
        notes();
        ringRefuses();
        oneNote();
        steps();
        awryEdges();
        firstStepDoesNotCount();
        noTwoTheSame();
        leastTogetherNotOneByOne();
        chainsOfMoves();
        firstByNotes();
        crackedAndOld();
        changesAreSeen();
        fullRing();
        heaviest();
        manyLikeBells();
        C.end();
    }

    private static void dueRing(String what, BellFoundry f, int weight, int... bells) {
        C.due(what, f.ringWeight(), weight);
        for (int i = 0; i < bells.length; i++) {
            C.due(what + ", note " + i, f.ringBell(i), bells[i]);
        }
        C.due(what + ", behind the last", f.ringBell(bells.length), -1);
        C.due(what + ", note -1", f.ringBell(-1), -1);
    }

    private static void dueNone(String what, BellFoundry f) {
        C.due(what, f.ringWeight(), -1);
        for (int i = 0; i < 8; i++) {
            C.due(what + ", note " + i, f.ringBell(i), -1);
        }
    }

    private static BellFoundry cast(int... tonesAndExtras) {
        BellFoundry f = Making.rich();
        f.profile(100);
        for (int i = 0; i + 1 < tonesAndExtras.length; i += 2) {
            Making.bell(f, 0, tonesAndExtras[i], tonesAndExtras[i + 1]);
        }
        return f;
    }

    private static void sing(BellFoundry f, int awry, int... steps) {
        C.yes("ring(" + awry + ")", f.ring(awry));
        for (int i = 0; i < steps.length; i++) {
            C.due("note", f.note(steps[i]), i + 1);
        }
    }

    private static void notes() {
        BellFoundry f = new BellFoundry();
        C.due("step -5001", f.note(-5001), -1);
        C.due("step 5001", f.note(5001), -1);
        C.due("least int", f.note(Integer.MIN_VALUE), -1);
        C.due("most int", f.note(Integer.MAX_VALUE), -1);
        C.due("no notes", f.about(6), 0);
        C.due("step -5000", f.note(-5000), 1);
        C.due("step 5000", f.note(5000), 2);
        for (int i = 3; i <= 8; i++) {
            C.due("note", f.note(0), i);
        }
        C.due("a ninth", f.note(0), -1);
        C.due("eight", f.about(6), 8);
        dueNone("no bells", f);
    }

    private static void ringRefuses() {
        BellFoundry f = cast(0, 0);
        C.yes("ring(200)", f.ring(200));
        C.due("awry", f.about(7), 200);
        f.note(3);
        int[] others = {-1, 201, Integer.MIN_VALUE, Integer.MAX_VALUE};
        for (int awry : others) {
            C.no("ring(" + awry + ")", f.ring(awry));
        }
        C.due("awry stays", f.about(7), 200);
        C.due("notes stay", f.about(6), 1);
        dueRing("the ring stays", f, 100, 0);
        C.yes("ring(0)", f.ring(0));
        C.due("no notes", f.about(6), 0);
        C.due("awry 0", f.about(7), 0);
        dueNone("no notes", f);
        C.due("the first again", f.note(0), 1);
    }

    private static void oneNote() {
        BellFoundry f = cast(5, 3, 9, 1, 7, 1, 5, 2);
        sing(f, 0, 44);
        dueRing("the lightest, the lower", f, 101, 1);
        C.due("far notes", f.ringBell(Integer.MAX_VALUE), -1);
        C.due("far notes", f.ringBell(Integer.MIN_VALUE), -1);
        C.due("note 7", f.ringBell(7), -1);
        C.due("note 8", f.ringBell(8), -1);
    }

    private static void steps() {
        BellFoundry f = cast(1000, 0, 1200, 1, 900, 2);
        sing(f, 0, 0, 200, -100);
        dueRing("above and below", f, 303, 0, 1, 2);
        sing(f, 0, 0, -200, -300);
        dueRing("from the highest", f, 303, 1, 0, 2);
        sing(f, 0, 0, 200, 100);
        dueNone("steps are from the first, not the one before", f);
        sing(f, 0, 0, 200, -100, 0);
        dueNone("more notes than bells", f);
    }

    private static void awryEdges() {
        int[] tones = {-1, 0, 0, 1, 10, 11, -10, -11};
        boolean[] fits = {true, true, true, true, true, false, true, false};
        for (int i = 0; i < tones.length; i++) {
            BellFoundry f = cast(1000, 0, 1300 + tones[i], 0);
            sing(f, 10, 0, 300);
            C.due("off by " + tones[i], f.ringWeight(), fits[i] ? 200 : -1);
            sing(f, 0, 0, 300);
            C.due("none awry, off by " + tones[i], f.ringWeight(), tones[i] == 0 ? 200 : -1);
        }
        BellFoundry f = cast(-20000, 0, -15000, 0);
        sing(f, 0, 0, 5000);
        dueRing("largest step", f, 200, 0, 1);
        sing(f, 0, 0, -5000);
        dueRing("largest step down", f, 200, 1, 0);
        f = cast(-20000, 0, 20000, 0);
        sing(f, 200, 0, 5000);
        dueNone("far apart", f);
    }

    private static void firstStepDoesNotCount() {
        BellFoundry f = cast(0, 0, 70, 0);
        sing(f, 0, 5000, 70);
        dueRing("first step 5000", f, 200, 0, 1);
        sing(f, 0, -5000, -70);
        dueRing("first step -5000", f, 200, 1, 0);
    }

    private static void noTwoTheSame() {
        BellFoundry f = cast(50, 0);
        sing(f, 200, 0, 0);
        dueNone("one bell for two", f);
        Making.bell(f, 0, 50, 9);
        dueRing("two bells", f, 209, 0, 1);
        f.note(0);
        dueNone("two bells for three", f);
        Making.bell(f, 0, 50, 0);
        dueRing("three bells", f, 309, 0, 1, 2);
    }

    /** The lightest for the first two notes would leave none, or a heavy one, for the third. */
    private static void leastTogetherNotOneByOne() {
        BellFoundry f = cast(0, 50, 100, 1, 105, 2, 110, 3, 95, 60);
        sing(f, 5, 0, 105, 95);
        dueRing("100 for 95", f, 353, 0, 2, 1);
        f = cast(0, 50, 100, 1, 110, 9, 95, 90);
        sing(f, 5, 0, 105, 95);
        dueRing("100 for 95, the heavier 110", f, 360, 0, 2, 1);
        f = cast(500, 0, 0, 40, 100, 30, 600, 99);
        sing(f, 0, 0, 100);
        dueRing("the lightest first bell isn't in the lightest ring", f, 270, 1, 2);
    }

    /** The last note can have a bell only if those before it move on, each to another's. */
    private static void chainsOfMoves() {
        BellFoundry f = cast(0, 50, 10, 1, 20, 2, 30, 3, 40, 4, 50, 5, 60, 6, 70, 90);
        sing(f, 5, 0, 15, 25, 35, 45, 55, 65);
        dueRing("each its lightest", f, 700 + 50 + 21, 0, 1, 2, 3, 4, 5, 6);
        f.note(10);
        dueRing("all move on", f, 800 + 50 + 21 + 90, 0, 2, 3, 4, 5, 6, 7, 1);
        f.crack(7);
        dueNone("the last can't", f);
    }

    private static void firstByNotes() {
        BellFoundry f = cast(0, 5, 0, 5, 0, 5, 0, 5);
        sing(f, 0, 0, 0, 0);
        dueRing("all alike", f, 315, 0, 1, 2);
        f = cast(0, 5, 10, 5, 0, 5, 10, 5);
        sing(f, 0, 0, -10);
        dueRing("the lower of two", f, 210, 1, 0);
        f = cast(0, 5, 3, 5, 6, 5, 9, 5);
        sing(f, 3, 0, 3, 6);
        dueRing("lower bells at the earlier notes", f, 315, 0, 1, 2);
        sing(f, 3, 0, 6, 3);
        dueRing("the second note before the third", f, 315, 0, 1, 2);
        sing(f, 0, 0, 3);
        dueRing("one step", f, 210, 0, 1);
        f = cast(9, 5, 0, 5, 3, 6, 3, 4, 6, 4, 6, 6);
        sing(f, 0, 0, 3, 6);
        dueRing("the lightest", f, 313, 1, 3, 4);
    }

    private static void crackedAndOld() {
        BellFoundry f = cast(0, 1, 0, 2, 10, 1, 10, 3);
        sing(f, 0, 0, 10);
        dueRing("all sound", f, 202, 0, 2);
        f.old(0);
        dueRing("an old one may", f, 202, 0, 2);
        f.crack(2);
        dueRing("a cracked one may not", f, 204, 0, 3);
        f.crack(0);
        dueRing("nor at the first note", f, 205, 1, 3);
        f.crack(3);
        dueNone("none left", f);
    }

    private static void changesAreSeen() {
        BellFoundry f = Making.rich();
        f.profile(100);
        Making.height(f, 0, 0, 9, 0, 4);
        f.cast(0);
        f.cast(0);
        sing(f, 0, 0, 4);
        dueNone("alike", f);
        f.cut(1, 0);
        dueRing("a cut", f, 217, 1, 0);
        f.span(0, 28, 28);
        f.tune(0);
        dueRing("tuned", f, 215, 0, 1);
        f.cast(0);
        dueRing("a bell more", f, 215, 0, 1);
        f.note(8);
        dueRing("a note more", f, 324, 0, 1, 2);
        f.shape(0, 7, 0, 7);
        f.shape(0, 5, 0, 1);
        f.cast(0);
        dueRing("a bell more", f, 324, 0, 1, 2);
        C.yes("ring", f.ring(200));
        f.note(0);
        f.note(0);
        dueRing("wide", f, 214, 0, 3);
    }

    private static void fullRing() {
        BellFoundry f = Making.rich();
        f.profile(100);
        int[] tones = {0, 200, 400, 500, 700, 900, 1100, 1200};
        for (int i = 7; i >= 0; i--) {
            Making.bell(f, 0, tones[i], 10 + i);
            Making.bell(f, 0, tones[i], 30 + i);
            Making.bell(f, 0, tones[i] + 1, i);
        }
        sing(f, 0, tones);
        int[] bells = {23, 20, 17, 14, 11, 8, 5, 2};
        dueRing("eight", f, 800 + 28, bells);
        f.crack(2);
        for (int i = 0; i < 8; i++) {
            bells[i] = 21 - 3 * i;
        }
        dueRing("the others' eight", f, 800 + 80 + 28, bells);
        sing(f, 1, tones);
        bells = new int[] {23, 20, 17, 14, 11, 8, 5, 0};
        dueRing("one more or less", f, 800 + 28 - 7 + 17, bells);
    }

    private static void heaviest() {
        BellFoundry f = Making.rich();
        f.profile(5000);
        for (int h = 0; h < 8; h++) {
            f.shape(0, 5, h, 50);
            f.shape(0, 7, h, 99);
        }
        for (int b = 0; b < 9; b++) {
            C.due("cast", f.cast(0), b);
        }
        sing(f, 0, 0, 0, 0, 0, 0, 0, 0, 0);
        dueRing("eight of the heaviest", f, 8 * 44600, 0, 1, 2, 3, 4, 5, 6, 7);
        f.cut(8, 0);
        f.cut(8, 0);
        dueRing("one is lighter", f, 8 * 44600 - 100, 0, 1, 2, 3, 4, 5, 6, 8);
    }

    /** As many choices as can be: they are not to be gone through one by one. */
    private static void manyLikeBells() {
        BellFoundry f = Making.rich();
        f.profile(100);
        for (int b = 0; b < 24; b++) {
            Making.bell(f, 0, b % 7, 24 - b);
        }
        sing(f, 200, 0, 1, 2, 3, 4, 5, 6, 7);
        dueRing("the last eight", f, 836, 16, 17, 18, 19, 20, 21, 22, 23);
        for (int i = 0; i < 100; i++) {
            f.ring(200 - i);
            for (int n = 0; n < 8; n++) {
                f.note(-n);
            }
            C.due("again", f.ringWeight(), 836);
        }
        sing(f, 200, 0, 1, 2, 3, 4, 5, 6, 207);
        dueNone("all but one note", f);
    }
}
