/** Promise 13: tune. */
public final class Promise13TuneTest {
    private static final Check C = new Check("promise 13");

    public static void main(String[] args) {
        theCutsAreMade();
        noCutsNeeded();
        others();
        noneOfTwelveDo();
        itHangsOn();
        C.end();
    }

    private static void theCutsAreMade() {
        C.sentence("The CUTS of TUNING are made: how many.");
        BellFoundry f = Making.rich();
        f.profile(10);
        for (int h = 0; h < 8; h++) {
            Making.height(f, 0, h, 3, 1, 1);
            f.shape(0, 5, h, 20 + h);
        }
        f.cast(0);
        f.cast(0);
        f.span(0, 19, 19);
        C.due("tune", f.tune(0), 5);
        int[] thick = {3, 3, 3, 3, 3, 2, 1, 1};
        for (int h = 0; h < 8; h++) {
            C.due("thickness at " + h, f.bellOf(0, 10 + h), thick[h]);
            C.due("the other's", f.bellOf(1, 10 + h), 3);
        }
        C.due("part", f.bellOf(0, 0), 19);
        C.due("heap", f.about(4), 25 + 2 * 26 + 2 * 27);
        C.due("heap and bells together", f.about(4) + f.about(5), 2 * f.bellOf(1, 5));
        C.due("tuned", f.tuning(0), 0);
        f.span(0, 18, 18);
        C.due("one more", f.tune(0), 1);
        C.due("it is made", f.bellOf(0, 15), 1);
        f.span(0, 19, 24);
        C.due("no cut is undone", f.tune(0), -1);
        C.due("heap", f.about(4), 2 * 25 + 2 * 26 + 2 * 27);
    }

    private static BellFoundry tuned() {
        BellFoundry f = Making.busy();
        f.tune(0);
        return f;
    }

    private static void noCutsNeeded() {
        C.sentence("The CUTS of TUNING are made: how many.");
        C.due("two", Making.busy().tune(0), 2);
        Twins.leaves(C, "none", Promise13TuneTest::tuned, 0, f -> f.tune(0));
        C.due("a bell with nothing to cut", Making.withBells(10).tune(0), 0);
    }

    private static BellFoundry askedThen(boolean old) {
        BellFoundry f = Making.busy();
        f.tuning(0);
        if (old) {
            f.old(0);
        } else {
            f.crack(0);
        }
        return f;
    }

    private static void others() {
        C.sentence("NONE as above.");
        for (int bell : Twins.others(-2, -1, 4, 5, 23, 24)) {
            Twins.none(C, "tune(" + bell + ")", Making::busy, f -> f.tune(bell));
        }
        Twins.none(C, "old", Making::busy, f -> f.tune(1));
        Twins.none(C, "cracked", Making::busy, f -> f.tune(2));
        Twins.none(C, "old since its tuning was asked", () -> askedThen(true), f -> f.tune(0));
        Twins.none(C, "cracked since its tuning was asked", () -> askedThen(false), f -> f.tune(0));
        BellFoundry full = Making.fullOfBells();
        C.due("bell 23 of 24", full.tune(23), 1);
        C.due("bell 24 of 24", full.tune(24), -1);
    }

    private static BellFoundry fifty(int from, int to) {
        BellFoundry f = Making.withTables(50, 1);
        f.span(0, from, to);
        return f;
    }

    private static void noneOfTwelveDo() {
        C.sentence("NONE as above.");
        BellFoundry f = fifty(0, 38);
        C.due("twelve", f.tune(0), 12);
        C.due("they are made", f.bellOf(0, 10), 38);
        Twins.none(C, "thirteen", () -> fifty(0, 37), x -> x.tune(0));
        Twins.none(C, "out of reach", () -> fifty(51, 60), x -> x.tune(0));
        f.span(0, 0, 37);
        C.due("the thirteenth by itself", f.tune(0), 1);
    }

    private static void itHangsOn() {
        C.sentence("The CUTS of TUNING are made: how many.");
        BellFoundry f = Making.busy();
        int pull = f.bellOf(0, 9);
        int weight = f.bellOf(0, 5);
        f.tune(0);
        C.due("its way", f.bellOf(0, 8), 0);
        C.due("its pull before", pull, weight * 50 / 100);
        C.due("its pull", f.bellOf(0, 9), f.bellOf(0, 5) * 50 / 100);
        C.due("metal came to the heap", f.about(4), 50 + weight - f.bellOf(0, 5));
    }
}
