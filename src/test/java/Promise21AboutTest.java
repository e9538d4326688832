/** Promise 21: about. */
public final class Promise21AboutTest {
    private static final Check C = new Check("promise 21");

    public static void main(String[] args) {
        each();
        others();
        full();
        metalOfBellsThatAreNotCracked();
        pullsTogether();
        changesNothing();
        C.end();
    }

    private static void each() {
        C.sentence("0 PROFILES, 1 bells, 2 copper, 3 tin, 4 the HEAP, .. 6 NOTES, 7 AWRY, .. 9 what the tower bears, 10 .. 14 SHARES.");
        BellFoundry f = Making.withBells(100, 200, 300);
        f.ring(9);
        f.note(1);
        f.note(2);
        for (int way = 0; way < 5; way++) {
            f.tower(way, 10 * way + 10, 5000);
        }
        f.hang(2, 4);
        f.hang(0, 1);
        f.crack(1);
        f.cast(0);
        int[] due = {3, 4, 1000000 - 77 - 154 - 231, 1000000 - 23 - 46 - 69, 100, 500, 2, 9, 150 + 20, 5000,
            10, 20, 30, 40, 50};
        for (int what = 0; what < due.length; what++) {
            C.due("about(" + what + ")", f.about(what), due[what]);
        }
    }

    private static void others() {
        C.sentence("NONE for others.");
        for (int what : Twins.others(-2, -1, 15, 16)) {
            Twins.none(C, "about(" + what + ")", Making::busy, f -> f.about(what));
            C.due("about(" + what + ") of a new one", new BellFoundry().about(what), -1);
        }
    }

    private static void full() {
        C.sentence("0 PROFILES, 1 bells, .. 6 NOTES");
        C.due("four profiles", Making.fourProfiles().about(0), 4);
        C.due("24 bells", Making.fullOfBells().about(1), 24);
        C.due("eight notes", Making.fullOfNotes().about(6), 8);
    }

    private static void metalOfBellsThatAreNotCracked() {
        C.sentence("5 the metal of bells that aren't CRACKED");
        BellFoundry f = Making.withTables(5, 1);
        C.due("one", f.about(5), 15);
        f.cast(0);
        C.due("two", f.about(5), 30);
        f.cut(0, 0);
        C.due("a cut", f.about(5), 29);
        f.old(0);
        C.due("an old one counts", f.about(5), 29);
        f.crack(0);
        C.due("a cracked one doesn't", f.about(5), 15);
        f.crack(1);
        C.due("all cracked", f.about(5), 0);
        C.due("all in the heap", f.about(4), 30);
    }

    private static void pullsTogether() {
        C.sentence("8 pulls together");
        BellFoundry f = Making.withBells(199, 199, 199);
        f.tower(0, 50, 1000);
        int[] due = {99, 198, 297};
        for (int b = 0; b < 3; b++) {
            f.hang(b, 0);
            C.due("each cut by itself", f.about(8), due[b]);
        }
        f.crack(0);
        C.due("a cracked one no more", f.about(8), 198);
        f.hang(1, -1);
        C.due("one taken down", f.about(8), 99);
    }

    private static void changesNothing() {
        C.sentence("0 PROFILES, 1 bells, ..");
        for (int what = 0; what <= 14; what++) {
            int of = what;
            Twins.leaves(C, "about(" + what + ")", Making::busy, Making.busy().about(what), f -> f.about(of));
        }
    }
}
