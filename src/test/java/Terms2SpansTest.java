/** Terms, part II: spans and tuning. */
public final class Terms2SpansTest {
    private static final Check C = new Check("terms II");

    public static void main(String[] args) {
        spansAtFirst();
        withinItsSpan();
        eachPart();
        fewestCuts();
        fewestAtHeightZeroThenOne();
        whatAHigherHeightCannotSpare();
        leastIsKept();
        noneToTwelve();
        C.end();
    }

    private static void spansAtFirst() {
        C.sentence("at first all from -30000 to 30000");
        for (int sign = -1; sign <= 1; sign += 2) {
            for (int part = 0; part < 5; part++) {
                BellFoundry f = Making.rich();
                f.profile(0);
                f.base(0, part, sign * 20000);
                for (int h = 0; h < 4; h++) {
                    f.shape(0, 7, h, 50);
                    f.shape(0, part, h, 50 * sign);
                }
                f.cast(0);
                C.due("part " + part, f.bellOf(0, part), sign * 30000);
                C.due("30000 is within", f.tuning(0), 0);
                f.shape(0, 7, 4, 1);
                f.shape(0, part, 4, sign);
                f.cast(0);
                C.due("part " + part, f.bellOf(1, part), sign * 30001);
                C.due("30001 isn't", f.tuning(1), 1);
                C.due("the one cut", f.tuningAt(1, 4), 1);
            }
        }
    }

    private static void withinItsSpan() {
        C.sentence("behind which each part is within its SPAN");
        BellFoundry f = Making.withTables(10, 3);
        f.span(0, 21, 21);
        Cuts.due(C, "30 to 21", f, 3);
        f.span(0, 22, 23);
        Cuts.dueNone(C, "no third of it", f);
        f.span(0, 22, 24);
        Cuts.due(C, "30 to 24", f, 2);
        f.span(0, 24, 30);
        Cuts.due(C, "30 is within", f);
        f.span(0, 24, 29);
        Cuts.due(C, "30 isn't", f, 1);
        f.span(0, 31, 40);
        Cuts.dueNone(C, "cuts only lower it", f);
        f = Making.withTables(10, -3);
        f.span(0, -24, -22);
        Cuts.due(C, "-30 to -24", f, 2);
        f.span(0, -40, -31);
        Cuts.dueNone(C, "cuts only raise it", f);
        f = Making.withTables(10, 0);
        f.span(0, -1, -1);
        Cuts.dueNone(C, "cuts don't move it", f);
    }

    private static void eachPart() {
        C.sentence("behind which each part is within its SPAN");
        for (int part = 0; part < 5; part++) {
            BellFoundry f = Making.rich();
            f.profile(10);
            f.shape(0, 7, 3, 20);
            f.shape(0, part, 3, 7);
            f.cast(0);
            f.span(part, 0, 125);
            Cuts.due(C, "140 to 125 in part " + part, f, 0, 0, 0, 3);
            f.span((part + 1) % 5, 1, 1);
            Cuts.dueNone(C, "another part is out", f);
            f.span((part + 1) % 5, 0, 0);
            C.due("it is in", f.tuning(0), 3);
        }
        BellFoundry f = Making.rich();
        f.profile(10);
        for (int part = 0; part < 5; part++) {
            f.shape(0, 7, part, 10);
            f.shape(0, part, part, 1);
            f.shape(0, part, 6, 1);
        }
        f.shape(0, 7, 6, 10);
        f.cast(0);
        for (int part = 0; part < 5; part++) {
            f.span(part, 0, 19 - part);
        }
        Cuts.due(C, "five at once", f, 0, 0, 0, 0, 0, 0, 5);
        for (int part = 0; part < 5; part++) {
            f.span(part, 19 - part, 19 - part);
        }
        Cuts.due(C, "five at their points", f, 0, 1, 2, 3, 4, 0, 1);
    }

    private static void fewestCuts() {
        C.sentence("the fewest CUTS (0 .. 12)");
        BellFoundry f = Making.withTables(12, 1, 2, 5, 10);
        f.span(0, 216 - 20, 216 - 20);
        Cuts.due(C, "20 as 10 and 10", f, 0, 0, 0, 2);
        f.span(0, 216 - 17, 216 - 17);
        Cuts.due(C, "17 as 10, 5, 2", f, 0, 1, 1, 1);
        f.span(0, 216 - 20, 216 - 17);
        Cuts.due(C, "17 .. 20", f, 0, 0, 0, 2);
        f.span(0, 216 - 4, 216 - 3);
        Cuts.due(C, "3 or 4 as 2 and 2", f, 0, 2, 0, 0);
    }

    private static void fewestAtHeightZeroThenOne() {
        C.sentence("of these the ones with the fewest at height 0, then 1, and so on");
        BellFoundry f = Making.withTables(12, 4, 4, 4, 4, 4, 4, 4, 4);
        f.span(0, 384 - 12, 384 - 12);
        Cuts.due(C, "all at the last", f, 0, 0, 0, 0, 0, 0, 0, 3);
        f = Making.withTables(2, 4, 4, 4, 4, 4, 4, 4, 4);
        f.span(0, 64 - 20, 64 - 20);
        Cuts.due(C, "two each from the last", f, 0, 0, 0, 0, 0, 1, 2, 2);
        f = Making.withTables(12, 3, 5, 1, 4);
        f.span(0, 156 - 6, 156 - 6);
        Cuts.due(C, "5 and 1 before 3 and 3", f, 0, 1, 1, 0);
        f = Making.withTables(12, 5, 3, 3, 1);
        f.span(0, 144 - 6, 144 - 6);
        Cuts.due(C, "none at 0, then none at 1", f, 0, 0, 2, 0);
        f = Making.withTables(12, 0, 0, 0, 0, 0, 0, 0, 1);
        f.span(0, 10, 10);
        Cuts.due(C, "none where it is in vain", f, 0, 0, 0, 0, 0, 0, 0, 2);
    }

    private static void whatAHigherHeightCannotSpare() {
        C.sentence("of these the ones with the fewest at height 0, then 1, and so on");
        BellFoundry f = Making.rich();
        f.profile(10);
        Making.height(f, 0, 0, 9, 0, 2);
        Making.height(f, 0, 5, 3, 1, 2);
        f.cast(0);
        f.span(0, 10, 10);
        Cuts.due(C, "what height 5 can't", f, 5, 0, 0, 0, 0, 2);
    }

    private static void leastIsKept() {
        C.sentence("one unit of thickness less, not below LEAST");
        BellFoundry f = Making.rich();
        f.profile(10);
        Making.height(f, 0, 0, 9, 7, 10);
        Making.height(f, 0, 7, 9, 0, 1);
        f.cast(0);
        f.span(0, 0, 79);
        Cuts.due(C, "99 to 79", f, 2);
        f.span(0, 0, 78);
        Cuts.due(C, "99 to 78", f, 2, 0, 0, 0, 0, 0, 0, 1);
        f.cut(0, 0);
        Cuts.due(C, "one is made", f, 1, 0, 0, 0, 0, 0, 0, 1);
        f.span(0, 0, 69);
        Cuts.dueNone(C, "10 more", f);
        f.span(0, 0, 70);
        Cuts.due(C, "9 more", f, 1, 0, 0, 0, 0, 0, 0, 9);
        f.cut(0, 0);
        Cuts.due(C, "both are made", f, 0, 0, 0, 0, 0, 0, 0, 9);
        f = Making.rich();
        f.profile(10);
        Making.height(f, 0, 2, 9, 0, 1);
        Making.height(f, 0, 6, 9, 8, 30);
        f.cast(0);
        f.span(0, 0, 248);
        Cuts.due(C, "one unit to spare above", f, 0, 0, 1, 0, 0, 0, 1);
    }

    private static void noneToTwelve() {
        C.sentence("the fewest CUTS (0 .. 12)");
        for (int h = 0; h < 8; h++) {
            int[] tables = new int[8];
            tables[h] = 1;
            BellFoundry f = Making.withTables(20, tables);
            for (int cuts = 0; cuts <= 12; cuts++) {
                f.span(0, 0, 20 - cuts);
                C.due(cuts + " at " + h, f.tuningAt(0, h), cuts);
            }
            f.span(0, 0, 7);
            C.due("13 at " + h, f.tuningAt(0, h), -1);
        }
    }
}
