/** Promise 8: old. */
public final class Promise08OldTest {
    private static final Check C = new Check("promise 8");

    public static void main(String[] args) {
        fromNowOn();
        others();
        againChangesNothing();
        whatAnOldBellStillDoes();
        crackedOnesToo();
        C.end();
    }

    private static void fromNowOn() {
        C.sentence("A bell is OLD from now on: true.");
        BellFoundry f = Making.busy();
        C.due("not old at first", f.bellOf(0, 6), 0);
        C.due("cut before", f.cut(0, 1), 2);
        C.due("tuning before", f.tuning(0), 1);
        C.yes("old", f.old(0));
        C.due("it is old", f.bellOf(0, 6), 1);
        C.due("another isn't", f.bellOf(3, 6), 0);
        C.due("isn't cut", f.cut(0, 0), -1);
        C.due("isn't tuned", f.tuning(0), -1);
        C.due("isn't tuned", f.tune(0), -1);
        C.due("isn't tuned", f.tuningAt(0, 0), -1);
        f.span(0, -30000, 30000);
        C.due("nor where no cut is needed", f.tuning(0), -1);
        C.due("it stays old", f.bellOf(0, 6), 1);
    }

    private static void others() {
        C.sentence("False for others.");
        for (int bell : Twins.others(-2, -1, 4, 5, 23, 24)) {
            Twins.refuses(C, "old(" + bell + ")", Making::busy, f -> f.old(bell));
        }
        Twins.refuses(C, "bell 24 of 24", Making::fullOfBells, f -> f.old(24));
        C.yes("bell 23 of 24", Making.fullOfBells().old(23));
    }

    private static void againChangesNothing() {
        C.sentence("A bell is OLD from now on: true.");
        Twins.leaves(C, "an old one", Making::busy, 1, f -> f.old(1) ? 1 : 0);
    }

    private static void whatAnOldBellStillDoes() {
        C.sentence("An OLD bell isn't cut.");
        BellFoundry f = Making.withBells(100, 200);
        f.tower(0, 100, 1000);
        f.hang(0, 0);
        f.old(0);
        f.old(1);
        C.due("it hangs as it did", f.bellOf(0, 8), 0);
        C.yes("it is hung", f.hang(1, 0));
        C.yes("it is taken down", f.hang(1, -1));
        f.note(0);
        f.note(0);
        C.due("it is in a ring", f.ringWeight(), 300);
        C.yes("it cracks", f.crack(0));
        C.due("it stays old", f.bellOf(0, 6), 1);
    }

    private static void crackedOnesToo() {
        C.sentence("A bell is OLD from now on: true.");
        BellFoundry f = Making.busy();
        C.yes("a cracked one", f.old(2));
        C.due("it is old", f.bellOf(2, 6), 1);
        C.due("and cracked", f.bellOf(2, 7), 1);
    }
}
