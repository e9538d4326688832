/** Promise 17: ringWeight. */
public final class Promise17RingWeightTest {
    private static final Check C = new Check("promise 17");

    public static void main(String[] args) {
        together();
        thereAreNoNotes();
        noBellsThatAgree();
        tooFewBells();
        foundAnewBehindChanges();
        heaviest();
        asManyAsCanBe();
        changesNothing();
        C.end();
    }

    private static void together() {
        C.sentence("The weight of the RING's bells together.");
        BellFoundry f = Making.withTones(0, 1, 10, 2, 20, 4, 30, 8, 40, 16, 50, 32, 60, 64, 70, 9);
        int due = 0;
        int[] extras = {1, 2, 4, 8, 16, 32, 64, 9};
        for (int n = 0; n < 8; n++) {
            f.note(10 * n);
            due += 100 + extras[n];
            if (n > 0) {
                C.due("notes 0 to " + n, f.ringWeight(), n == 7 ? due : lightestFrom(extras, n));
            }
        }
    }

    /** As many neighbours as notes: the lightest run of them. */
    private static int lightestFrom(int[] extras, int last) {
        int least = Integer.MAX_VALUE;
        for (int first = 0; first + last < 8; first++) {
            int sum = 0;
            for (int n = 0; n <= last; n++) {
                sum += 100 + extras[first + n];
            }
            least = Math.min(least, sum);
        }
        return least;
    }

    private static void thereAreNoNotes() {
        C.sentence("NONE: there are no NOTES");
        Twins.none(C, "nothing at all", BellFoundry::new, BellFoundry::ringWeight);
        Twins.none(C, "bells alone", () -> Making.withBells(10, 20), BellFoundry::ringWeight);
        BellFoundry f = Making.withBells(10, 20);
        f.note(0);
        C.due("one note", f.ringWeight(), 10);
        f.ring(0);
        C.due("no notes again", f.ringWeight(), -1);
        f = Making.withBells(0);
        f.note(0);
        C.due("a bell of nothing is a ring", f.ringWeight(), 0);
        f.ring(0);
        C.due("no notes isn't", f.ringWeight(), -1);
    }

    private static void noBellsThatAgree() {
        C.sentence("or no bells that agree");
        BellFoundry f = Making.withTones(0, 0, 100, 0, 300, 0);
        Making.sing(f, 0, 0, 150);
        Rings.dueNone(C, "150 apart", f);
        Making.sing(f, 49, 0, 150);
        Rings.dueNone(C, "49 awry", f);
        Making.sing(f, 50, 0, 150);
        Rings.due(C, "50 awry", f, 200, 0, 1);
        Making.sing(f, 200, 0, 5000);
        Rings.dueNone(C, "far", f);
        Making.sing(f, 200, 0, -5000);
        Rings.dueNone(C, "far below", f);
    }

    private static void tooFewBells() {
        C.sentence("or no bells that agree");
        BellFoundry f = new BellFoundry();
        f.note(0);
        Rings.dueNone(C, "no bells", f);
        f = Making.withTones(0, 0, 0, 0, 0, 0, 0, 0, 0, 0, 0, 0, 0, 0);
        Making.sing(f, 200, 0, 0, 0, 0, 0, 0, 0);
        C.due("seven of seven", f.ringWeight(), 700);
        f.note(0);
        Rings.dueNone(C, "eight of seven", f);
        Making.bell(f, 0, 200, 5);
        Rings.due(C, "eight of eight", f, 805, 0, 1, 2, 3, 4, 5, 6, 7);
        f.crack(3);
        Rings.dueNone(C, "one is cracked", f);
    }

    private static void foundAnewBehindChanges() {
        C.sentence("The weight of the RING's bells together.");
        BellFoundry f = Making.rich();
        f.profile(100);
        Making.height(f, 0, 0, 9, 0, 4);
        f.cast(0);
        f.cast(0);
        Making.sing(f, 0, 0, 4);
        Rings.dueNone(C, "alike", f);
        f.cut(1, 0);
        Rings.due(C, "behind a cut", f, 217, 1, 0);
        f.span(0, 28, 28);
        f.tune(0);
        Rings.due(C, "tuned", f, 215, 0, 1);
        f.cast(0);
        f.note(8);
        Rings.due(C, "a bell and a note more", f, 324, 0, 1, 2);
        C.due("a note refused", f.note(5001), -1);
        C.no("a ring refused", f.ring(201));
        Rings.due(C, "as before", f, 324, 0, 1, 2);
        f.shape(0, 7, 0, 8);
        f.shape(0, 5, 0, 2);
        f.base(0, 0, 4);
        Rings.due(C, "the profile alone", f, 324, 0, 1, 2);
        f.shape(0, 5, 0, 1);
        f.cast(0);
        Rings.due(C, "a lighter bell", f, 323, 0, 1, 3);
        f.crack(3);
        Rings.due(C, "it is cracked", f, 324, 0, 1, 2);
    }

    private static void heaviest() {
        C.sentence("The weight of the RING's bells together.");
        BellFoundry f = Making.rich();
        f.profile(5000);
        for (int h = 0; h < 8; h++) {
            f.shape(0, 5, h, 50);
            f.shape(0, 7, h, 99);
        }
        for (int b = 0; b < 9; b++) {
            f.cast(0);
        }
        Making.sing(f, 0, 0, 0, 0, 0, 0, 0, 0, 0);
        Rings.due(C, "eight of the heaviest", f, 8 * 44600, 0, 1, 2, 3, 4, 5, 6, 7);
        f.cut(8, 0);
        f.cut(8, 0);
        Rings.due(C, "one is lighter", f, 8 * 44600 - 100, 0, 1, 2, 3, 4, 5, 6, 8);
    }

    /** Eight of 24 that all agree: the choices are too many to be gone through one by one. */
    private static void asManyAsCanBe() {
        C.sentence("The weight of the RING's bells together.");
        BellFoundry f = Making.rich();
        f.profile(100);
        for (int b = 0; b < 24; b++) {
            Making.bell(f, 0, b % 7, 24 - b);
        }
        for (int i = 0; i < 40; i++) {
            f.ring(200 - i);
            for (int n = 0; n < 8; n++) {
                f.note(-n);
            }
            C.due("the last eight", f.ringWeight(), 836);
        }
        Making.sing(f, 200, 0, 1, 2, 3, 4, 5, 6, 207);
        Rings.dueNone(C, "one note has none", f);
    }

    private static void changesNothing() {
        C.sentence("The weight of the RING's bells together.");
        Twins.leaves(C, "ringWeight", Making::busy, 129 + 43, BellFoundry::ringWeight);
    }
}
