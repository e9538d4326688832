/** Promise 12: tuning. */
public final class Promise12TuningTest {
    private static final Check C = new Check("promise 12");

    public static void main(String[] args) {
        howManyCuts();
        noneIsMade();
        others();
        noneOfTwelveDo();
        moreThanCanBeCut();
        foundAnewBehindChanges();
        hardSearches();
        C.end();
    }

    private static void howManyCuts() {
        C.sentence("TUNING: how many CUTS");
        BellFoundry f = Making.withTables(12, 3);
        for (int cuts = 0; cuts <= 12; cuts++) {
            f.span(0, 36 - 3 * cuts, 36 - 3 * cuts);
            C.due("3 a cut", f.tuning(0), cuts);
        }
    }

    private static void noneIsMade() {
        C.sentence("(none is made)");
        Twins.leaves(C, "tuning(0)", Making::busy, 2, f -> f.tuning(0));
        Twins.leaves(C, "tuning(3)", Making::busy, 1, f -> f.tuning(3));
    }

    private static void others() {
        C.sentence("NONE: others");
        for (int bell : Twins.others(-2, -1, 4, 5, 23, 24)) {
            Twins.none(C, "tuning(" + bell + ")", Making::busy, f -> f.tuning(bell));
        }
        Twins.none(C, "old", Making::busy, f -> f.tuning(1));
        Twins.none(C, "cracked", Making::busy, f -> f.tuning(2));
        BellFoundry full = Making.fullOfBells();
        C.due("bell 23 of 24", full.tuning(23), 1);
        C.due("bell 24 of 24", full.tuning(24), -1);
    }

    private static BellFoundry fifty(int most) {
        BellFoundry f = Making.withTables(50, 1);
        f.span(0, 0, most);
        return f;
    }

    private static void noneOfTwelveDo() {
        C.sentence("or none of 12 do");
        C.due("twelve", fifty(38).tuning(0), 12);
        Twins.none(C, "thirteen", () -> fifty(37), f -> f.tuning(0));
        BellFoundry f = Making.withTables(5, 1, 1, 1, 1, 1, 1, 1, 1);
        f.span(0, 28, 28);
        C.due("twelve over heights", f.tuning(0), 12);
        f.span(0, 27, 27);
        C.due("thirteen over heights", f.tuning(0), -1);
        f.cut(0, 3);
        C.due("twelve behind a cut", f.tuning(0), 12);
    }

    private static void moreThanCanBeCut() {
        C.sentence("or none of 12 do");
        BellFoundry f = Making.withTables(3, 1, 1);
        f.span(0, 0, 0);
        C.due("all there is", f.tuning(0), 6);
        f.span(0, -1, -1);
        C.due("one more than there is", f.tuning(0), -1);
        f = Making.withBells(10);
        C.due("nothing to cut, within", f.tuning(0), 0);
        f.span(0, 1, 1);
        C.due("nothing to cut, not within", f.tuning(0), -1);
    }

    private static void foundAnewBehindChanges() {
        C.sentence("TUNING: how many CUTS");
        BellFoundry f = Making.withTables(20, 2, 3);
        f.cast(0);
        f.span(0, 95, 95);
        Cuts.due(C, "5 of 100", f, 1, 1);
        C.due("the other bell", f.tuning(1), 2);
        f.cut(0, 0);
        Cuts.due(C, "one was made", f, 0, 1);
        C.due("the other as it was", f.tuningAt(1, 0), 1);
        f.span(0, 92, 92);
        Cuts.due(C, "another span", f, 0, 2);
        C.due("the other by it", f.tuning(1), 3);
        f.tune(0);
        Cuts.due(C, "tuned", f);
        f.span(1, 1, 1);
        Cuts.dueNone(C, "another part's span", f);
        C.no("a span refused", f.span(1, 1, 0));
        Cuts.dueNone(C, "as before", f);
        f.span(1, 0, 0);
        Cuts.due(C, "within again", f);
    }

    /** Narrow spans that no cuts meet: all calls of a run may be of these. */
    private static void hardSearches() {
        C.sentence("or none of 12 do");
        int[][] tables = {
            {50, -50, 48, -46, 44, -42, 40, -38}, {-30, 32, -34, 36, -38, 40, -42, 44},
            {2, 4, 6, 8, -2, -4, -6, -8}, {10, -10, 20, -20, 30, -30, 40, -40}};
        BellFoundry f = Making.rich();
        f.profile(10);
        for (int h = 0; h < 8; h++) {
            Making.height(f, 0, h, 99, 0, tables[0][h], tables[1][h], tables[2][h], tables[3][h]);
        }
        f.cast(0);
        for (int part = 0; part < 2; part++) {
            int now = f.bellOf(0, part);
            f.span(part, now - 40, now + 40);
        }
        int odd = f.bellOf(0, 2) + 1;
        for (int i = 0; i < 220; i++) {
            f.span(2, odd, odd);
            C.due("even numbers make no odd one", f.tuning(0), -1);
        }
    }
}
