/** Promise 14: tuningAt. */
public final class Promise14TuningAtTest {
    private static final Check C = new Check("promise 14");

    public static void main(String[] args) {
        theCutsAtAHeight();
        noneIsMade();
        otherHeights();
        others();
        noneOfTwelveDo();
        C.end();
    }

    private static void theCutsAtAHeight() {
        C.sentence("Of TUNING a bell (none is made): the CUTS at a height.");
        BellFoundry f = Making.withTables(5, 1, 1, 1, 1, 1, 1, 1, 1);
        f.span(0, 28, 28);
        Cuts.due(C, "twelve", f, 0, 0, 0, 0, 0, 2, 5, 5);
        f.span(0, 40, 40);
        Cuts.due(C, "none", f);
        for (int h = 0; h < 8; h++) {
            int[] tables = new int[8];
            tables[h] = 2;
            f = Making.withTables(9, tables);
            f.span(0, 14, 15);
            C.due("two at " + h, f.tuningAt(0, h), 2);
            C.due("none at another", f.tuningAt(0, (h + 1) % 8), 0);
        }
    }

    private static void noneIsMade() {
        C.sentence("(none is made)");
        int[] cuts = {0, 1, 0, 0, 0, 0, 0, 1};
        for (int h = 0; h < 8; h++) {
            int at = h;
            Twins.leaves(C, "tuningAt(0, " + h + ")", Making::busy, cuts[h], f -> f.tuningAt(0, at));
        }
    }

    private static void otherHeights() {
        C.sentence("and for other heights");
        for (int h : Twins.others(-2, -1, 8, 9)) {
            Twins.none(C, "tuningAt(0, " + h + ")", Making::busy, f -> f.tuningAt(0, h));
            C.due("where no cut is needed", Making.withBells(10).tuningAt(0, h), -1);
        }
    }

    private static void others() {
        C.sentence("NONE as above");
        for (int bell : Twins.others(-2, -1, 1, 2, 4, 5, 23, 24)) {
            for (int h = -1; h <= 8; h++) {
                int at = h;
                Twins.none(C, "tuningAt(" + bell + ", " + h + ")", Making::busy, f -> f.tuningAt(bell, at));
            }
        }
        BellFoundry full = Making.fullOfBells();
        C.due("bell 23 of 24", full.tuningAt(23, 0), 1);
        C.due("bell 24 of 24", full.tuningAt(24, 0), -1);
    }

    private static void noneOfTwelveDo() {
        C.sentence("NONE as above");
        BellFoundry f = Making.withTables(50, 1);
        f.span(0, 0, 38);
        Cuts.due(C, "twelve", f, 12);
        f.span(0, 0, 37);
        Cuts.dueNone(C, "thirteen", f);
        f.span(0, 51, 60);
        Cuts.dueNone(C, "out of reach", f);
    }
}
