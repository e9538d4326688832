/** Promise 16: ring. */
public final class Promise16RingTest {
    private static final Check C = new Check("promise 16");

    public static void main(String[] args) {
        noNotes();
        awry();
        others();
        C.end();
    }

    private static void noNotes() {
        C.sentence("No NOTES; AWRY: true.");
        BellFoundry f = Making.fullOfNotes();
        C.yes("ring(9)", f.ring(9));
        C.due("no notes", f.about(6), 0);
        C.due("awry", f.about(7), 9);
        Rings.dueNone(C, "no notes", f);
        for (int n = 1; n <= 8; n++) {
            C.due("notes again", f.note(0), n);
        }
        C.due("a ninth", f.note(0), -1);
        f.ring(9);
        C.due("one note", f.note(4000), 1);
        Rings.due(C, "the steps before are gone", f, 100, 0);
        C.yes("without notes", new BellFoundry().ring(0));
    }

    private static void awry() {
        C.sentence("AWRY (0 .. 200; at first 0)");
        C.due("at first", new BellFoundry().about(7), 0);
        int[] taken = {0, 1, 199, 200};
        for (int awry : taken) {
            for (int sign = -1; sign <= 1; sign += 2) {
                BellFoundry f = Making.withTones(0, 0, 1000 + sign * awry, 0);
                C.yes("ring(" + awry + ")", f.ring(awry));
                C.due("told", f.about(7), awry);
                f.note(0);
                f.note(1000);
                C.due("so much awry", f.ringWeight(), 200);
                f = Making.withTones(0, 0, 1000 + sign * (awry + 1), 0);
                Making.sing(f, awry, 0, 1000);
                C.due("one more awry", f.ringWeight(), -1);
            }
        }
    }

    private static void others() {
        C.sentence("False, changing nothing, for others.");
        for (int awry : Twins.others(-1, 201)) {
            Twins.refuses(C, "ring(" + awry + ")", Making::busy, f -> f.ring(awry));
            Twins.refuses(C, "ring(" + awry + ") of eight", Making::fullOfNotes, f -> f.ring(awry));
            Twins.refuses(C, "ring(" + awry + ") of none", BellFoundry::new, f -> f.ring(awry));
        }
    }
}
