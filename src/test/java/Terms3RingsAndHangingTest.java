/** Terms, part III: the ring and hanging. */
public final class Terms3RingsAndHangingTest {
    private static final Check C = new Check("terms III");

    public static void main(String[] args) {
        aboveTheFirstNotesBell();
        whoseOwnStepDoesNotCount();
        moreOrLessAtMost();
        notCracked();
        noTwoTheSame();
        leastWeightTogether();
        lastNoteMovesTheOthers();
        firstByNotes();
        fullRing();
        pullIsCut();
        C.end();
    }

    private static void aboveTheFirstNotesBell() {
        C.sentence("at which its bell's part 0 is to be above that of the first NOTE's bell");
        BellFoundry f = Making.withTones(1000, 0, 1200, 1, 900, 2);
        Making.sing(f, 0, 0, 200, -100);
        Rings.due(C, "above and below", f, 303, 0, 1, 2);
        Making.sing(f, 0, 0, 200, 100);
        Rings.dueNone(C, "not above the note before", f);
        f = Making.withTones(-20000, 0, -15000, 0);
        Making.sing(f, 0, 0, 5000);
        Rings.due(C, "largest step", f, 200, 0, 1);
        Making.sing(f, 0, 0, -5000);
        Rings.due(C, "largest step down", f, 200, 1, 0);
        f = Making.rich();
        f.profile(100);
        f.base(0, 1, 40);
        f.cast(0);
        f.base(0, 1, 90);
        f.cast(0);
        Making.sing(f, 0, 0, 50);
        Rings.dueNone(C, "another part doesn't count", f);
    }

    private static void whoseOwnStepDoesNotCount() {
        C.sentence("(whose own step doesn't count)");
        int[] firsts = {-5000, -70, 0, 70, 5000};
        for (int first : firsts) {
            BellFoundry f = Making.withTones(0, 0, 70, 0);
            Making.sing(f, 0, first, 70);
            Rings.due(C, "first step " + first, f, 200, 0, 1);
            Making.sing(f, 0, first, -70);
            Rings.due(C, "first step " + first + ", down", f, 200, 1, 0);
            Making.sing(f, 0, first);
            Rings.due(C, "alone", f, 100, 0);
        }
    }

    private static void moreOrLessAtMost() {
        C.sentence("AWRY (0 .. 200; at first 0) more or less at most");
        for (int off = -12; off <= 12; off++) {
            BellFoundry f = Making.withTones(1000, 0, 1300 + off, 0);
            f.note(0);
            f.note(300);
            C.due("at first, off by " + off, f.ringWeight(), off == 0 ? 200 : -1);
            Making.sing(f, 10, 0, 300);
            C.due("10 awry, off by " + off, f.ringWeight(), Math.abs(off) <= 10 ? 200 : -1);
        }
        BellFoundry f = Making.withTones(0, 0, 190, 0, -190, 0);
        Making.sing(f, 200, 0, 0, 0);
        Rings.due(C, "each by the first bell, not by one another", f, 300, 0, 1, 2);
        f = Making.withTones(0, 0, 5200, 0);
        Making.sing(f, 200, 0, 5000);
        Rings.due(C, "the farthest above", f, 200, 0, 1);
        Making.sing(f, 200, 0, -5000);
        Rings.due(C, "the farthest below", f, 200, 1, 0);
        f = Making.withTones(0, 0, 5201, 0);
        Making.sing(f, 200, 0, 5000);
        Rings.dueNone(C, "farther above", f);
        Making.sing(f, 200, 0, -5000);
        Rings.dueNone(C, "farther below", f);
    }

    private static void notCracked() {
        C.sentence("of each NOTE a bell that isn't CRACKED");
        BellFoundry f = Making.withTones(0, 1, 0, 2, 10, 1, 10, 3);
        Making.sing(f, 0, 0, 10);
        Rings.due(C, "all sound", f, 202, 0, 2);
        f.old(0);
        Rings.due(C, "an old one may", f, 202, 0, 2);
        f.crack(2);
        Rings.due(C, "a cracked one may not", f, 204, 0, 3);
        f.crack(0);
        Rings.due(C, "nor at the first note", f, 205, 1, 3);
        f.crack(3);
        Rings.dueNone(C, "none left", f);
    }

    private static void noTwoTheSame() {
        C.sentence("no two the same");
        BellFoundry f = Making.withTones(50, 0);
        Making.sing(f, 200, 0, 0);
        Rings.dueNone(C, "one bell for two", f);
        Making.bell(f, 0, 50, 9);
        Rings.due(C, "two bells", f, 209, 0, 1);
        f.note(0);
        Rings.dueNone(C, "two bells for three", f);
        Making.bell(f, 0, 50, 0);
        Rings.due(C, "three bells", f, 309, 0, 1, 2);
    }

    /** The lightest for the first two notes would leave none, or a heavy one, for the third. */
    private static void leastWeightTogether() {
        C.sentence("those with the least weight together");
        BellFoundry f = Making.withTones(0, 50, 100, 1, 105, 2, 110, 3, 95, 60);
        Making.sing(f, 5, 0, 105, 95);
        Rings.due(C, "100 for 95", f, 353, 0, 2, 1);
        f = Making.withTones(0, 50, 100, 1, 110, 9, 95, 90);
        Making.sing(f, 5, 0, 105, 95);
        Rings.due(C, "100 for 95, the heavier 110", f, 360, 0, 2, 1);
        f = Making.withTones(500, 0, 0, 40, 100, 30, 600, 99);
        Making.sing(f, 0, 0, 100);
        Rings.due(C, "without the lightest bell", f, 270, 1, 2);
        f = Making.withTones(9, 5, 0, 5, 3, 6, 3, 4, 6, 4, 6, 6);
        Making.sing(f, 0, 0, 3, 6);
        Rings.due(C, "the lightest of each", f, 313, 1, 3, 4);
    }

    private static void lastNoteMovesTheOthers() {
        C.sentence("those with the least weight together");
        BellFoundry f = Making.withTones(0, 50, 10, 1, 20, 2, 30, 3, 40, 4, 50, 5, 60, 6, 70, 90);
        Making.sing(f, 5, 0, 15, 25, 35, 45, 55, 65);
        Rings.due(C, "each its lightest", f, 771, 0, 1, 2, 3, 4, 5, 6);
        f.note(10);
        Rings.due(C, "all move on", f, 961, 0, 2, 3, 4, 5, 6, 7, 1);
        f.crack(7);
        Rings.dueNone(C, "the last can't", f);
        f = Making.withTones(70, 90, 60, 6, 50, 5, 40, 4, 30, 3, 20, 2, 10, 1, 0, 50);
        Making.sing(f, 5, 0, 15, 25, 35, 45, 55, 65, 10);
        Rings.due(C, "all move on, each to a lower bell", f, 961, 7, 5, 4, 3, 2, 1, 0, 6);
        f = Making.withTones(10, 1, 15, 2, 0, 3);
        Making.sing(f, 5, 0, 12, 8);
        Rings.due(C, "the second note leaves bell 0 to the third", f, 306, 2, 1, 0);
    }

    private static void firstByNotes() {
        C.sentence("of these the first by NOTES (the lower bell first)");
        BellFoundry f = Making.withTones(0, 5, 0, 5, 0, 5, 0, 5);
        Making.sing(f, 0, 0, 0, 0);
        Rings.due(C, "all alike", f, 315, 0, 1, 2);
        f = Making.withTones(0, 5, 10, 5, 0, 5, 10, 5);
        Making.sing(f, 0, 0, -10);
        Rings.due(C, "the lower of two", f, 210, 1, 0);
        f = Making.withTones(0, 5, 3, 5, 6, 5, 9, 5);
        Making.sing(f, 3, 0, 3, 6);
        Rings.due(C, "lower bells at the earlier notes", f, 315, 0, 1, 2);
        Making.sing(f, 3, 0, 6, 3);
        Rings.due(C, "the second note before the third", f, 315, 0, 1, 2);
        f = Making.withTones(0, 6, 10, 4, 0, 5, 10, 5);
        Making.sing(f, 0, 0, 10);
        Rings.due(C, "weight comes first", f, 209, 2, 1);
        f = Making.withTones(0, 5, 10, 6, 0, 6, 10, 5, 10, 6);
        Making.sing(f, 0, 0, 10, 10);
        Rings.due(C, "a lower bell where it is heavier elsewhere", f, 316, 0, 1, 3);
    }

    private static void fullRing() {
        C.sentence("up to 8 NOTES");
        BellFoundry f = Making.rich();
        f.profile(100);
        int[] tones = {0, 200, 400, 500, 700, 900, 1100, 1200};
        for (int i = 7; i >= 0; i--) {
            Making.bell(f, 0, tones[i], 10 + i);
            Making.bell(f, 0, tones[i], 30 + i);
            Making.bell(f, 0, tones[i] + 1, i);
        }
        Making.sing(f, 0, tones);
        Rings.due(C, "eight of 24", f, 828, 23, 20, 17, 14, 11, 8, 5, 2);
        f.crack(2);
        Rings.due(C, "the others' eight", f, 908, 21, 18, 15, 12, 9, 6, 3, 0);
        Making.sing(f, 1, tones);
        Rings.due(C, "one more or less", f, 838, 23, 20, 17, 14, 11, 8, 5, 0);
    }

    private static void pullIsCut() {
        C.sentence("a bell's pull is its weight times the SHARE of its WAY by 100, cut");
        int[][] weightSharePull = {{0, 300, 0}, {1, 99, 0}, {1, 100, 1}, {1, 199, 1}, {1, 300, 3}, {99, 1, 0}, {100, 1, 1},
            {199, 1, 1}, {199, 50, 99}, {33, 3, 0}, {34, 3, 1}, {5000, 0, 0}, {5000, 300, 15000}, {4999, 299, 14947}};
        for (int[] w : weightSharePull) {
            BellFoundry f = Making.withBells(w[0]);
            f.tower(1, w[1], 1000000);
            f.hang(0, 1);
            C.due("pull of " + w[0] + " by " + w[1], f.bellOf(0, 9), w[2]);
            C.due("pulls together", f.about(8), w[2]);
        }
        BellFoundry f = Making.withTables(9, 1);
        f.tower(0, 150, 1000);
        f.hang(0, 0);
        C.due("pull of 19", f.bellOf(0, 9), 28);
        f.cut(0, 0);
        C.due("pull of 18", f.bellOf(0, 9), 27);
        f.span(0, 5, 5);
        f.tune(0);
        C.due("pull of 15", f.bellOf(0, 9), 22);
        C.yes("so much less may be borne", f.tower(-1, 0, 22));
        C.no("not less still", f.tower(-1, 0, 21));
    }
}
