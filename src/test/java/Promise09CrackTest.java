/** Promise 9: crack. */
public final class Promise09CrackTest {
    private static final Check C = new Check("promise 9");

    public static void main(String[] args) {
        itsWeightCameToTheHeap();
        andHangsNoMore();
        others();
        ifItIsCracked();
        isNotCutHungTunedInARing();
        C.end();
    }

    private static void itsWeightCameToTheHeap() {
        C.sentence("its weight came to the HEAP as it cracked");
        BellFoundry f = Making.busy();
        C.due("heap before", f.about(4), 50);
        C.due("metal before", f.about(5), 129 + 136 + 43);
        C.yes("crack", f.crack(0));
        C.due("it is cracked", f.bellOf(0, 7), 1);
        C.due("another isn't", f.bellOf(3, 7), 0);
        C.due("heap, by its weight with a cut", f.about(4), 50 + 129);
        C.due("metal of the others", f.about(5), 136 + 43);
        C.due("its weight is told", f.bellOf(0, 5), 129);
        C.due("its thickness is told", f.bellOf(0, 11), 3);
        C.due("still a bell", f.about(1), 4);
        C.due("copper", f.about(2), Making.busy().about(2));
        C.yes("an old one", f.crack(1));
        C.due("heap", f.about(4), 50 + 129 + 136);
        f = Making.withBells(0);
        C.yes("a bell of nothing", f.crack(0));
        C.due("heap", f.about(4), 0);
    }

    private static void andHangsNoMore() {
        C.sentence("A bell CRACKS (and hangs no more): true.");
        BellFoundry f = Making.withBells(100, 200);
        f.tower(3, 100, 300);
        f.hang(0, 3);
        f.hang(1, 3);
        C.yes("crack", f.crack(0));
        C.due("way", f.bellOf(0, 8), -1);
        C.due("pull", f.bellOf(0, 9), 0);
        C.due("pulls together", f.about(8), 200);
        C.due("the other's way", f.bellOf(1, 8), 3);
        C.yes("the tower may bear less", f.tower(-1, 0, 200));
        C.yes("one that doesn't hang", Making.withBells(7).crack(0));
    }

    private static void others() {
        C.sentence("False for others");
        for (int bell : Twins.others(-2, -1, 4, 5, 23, 24)) {
            Twins.refuses(C, "crack(" + bell + ")", Making::busy, f -> f.crack(bell));
        }
        Twins.refuses(C, "bell 24 of 24", Making::fullOfBells, f -> f.crack(24));
        C.yes("bell 23 of 24", Making.fullOfBells().crack(23));
    }

    private static void ifItIsCracked() {
        C.sentence("or if it is CRACKED");
        Twins.refuses(C, "again", Making::busy, f -> f.crack(2));
        BellFoundry f = Making.busy();
        f.old(2);
        C.no("an old one again", f.crack(2));
        C.due("heap once", f.about(4), 50);
    }

    private static void isNotCutHungTunedInARing() {
        C.sentence("A CRACKED one isn't cut, hung, tuned, in a RING");
        Twins.none(C, "cut", Making::busy, f -> f.cut(2, 0));
        Twins.none(C, "tuning", Making::busy, f -> f.tuning(2));
        Twins.none(C, "tune", Making::busy, f -> f.tune(2));
        Twins.none(C, "tuningAt", Making::busy, f -> f.tuningAt(2, 0));
        Twins.refuses(C, "hang", Making::busy, f -> f.hang(2, 4));
        Twins.refuses(C, "hang, down", Making::busy, f -> f.hang(2, -1));
        BellFoundry f = Making.busy();
        C.due("in a ring", f.ringBell(1), 3);
        f.crack(3);
        C.due("in it no more", f.ringBell(1), 0);
        C.due("the ring's first", f.ringBell(0), 1);
        f.crack(0);
        C.due("no ring", f.ringWeight(), -1);
    }
}
