/** Promises 11 to 14: span, tuning, tune, tuningAt. */
public final class TuningTest {
    private static final Check C = new Check("tuning");

    public static void main(String[] args) {
        spanRefuses();
        spansAtFirst();
        spanEdges();
        fewestCuts();
        fewestAtLowHeights();
        moreCutsAtALowHeightThanCanBeSpared();
        leastIsKept();
        twelveAndThirteen();
        everyPartCounts();
        noneForOthers();
        tuneMakesTheCuts();
        planIsMadeAnew();
        hardSearches();
        C.end();
    }

    private static BellFoundry one(int base, int room, int... tables) {
        BellFoundry f = Making.rich();
        f.profile(10);
        f.base(0, 0, base);
        for (int h = 0; h < tables.length; h++) {
            Making.height(f, 0, h, room, 0, tables[h]);
        }
        f.cast(0);
        return f;
    }

    private static void dueCuts(String what, BellFoundry f, int... cuts) {
        int together = 0;
        for (int h = 0; h < 8; h++) {
            int at = h < cuts.length ? cuts[h] : 0;
            together += at;
            C.due(what + ", at " + h, f.tuningAt(0, h), at);
        }
        C.due(what, f.tuning(0), together);
    }

    private static void spanRefuses() {
        BellFoundry f = one(0, 20, 1);
        C.yes("span 20 .. 20", f.span(0, 20, 20));
        C.no("from above to", f.span(0, 5, 4));
        C.no("from below -30000", f.span(0, -30001, 4));
        C.no("to above 30000", f.span(0, 4, 30001));
        C.no("from least int", f.span(0, Integer.MIN_VALUE, 0));
        C.no("to most int", f.span(0, 0, Integer.MAX_VALUE));
        C.no("both above", f.span(0, 30001, 30001));
        C.no("both below", f.span(0, -30001, -30001));
        C.no("part -1", f.span(-1, 0, 1));
        C.no("part 5", f.span(5, 0, 1));
        C.no("part least int", f.span(Integer.MIN_VALUE, 0, 1));
        C.no("part most int", f.span(Integer.MAX_VALUE, 0, 1));
        C.due("nothing changed", f.tuning(0), 0);
        C.yes("widest", f.span(4, -30000, 30000));
        C.yes("high point", f.span(4, 30000, 30000));
        C.yes("low point", f.span(4, -30000, -30000));
        C.due("out of reach", f.tuning(0), -1);
    }

    private static void spansAtFirst() {
        for (int sign = -1; sign <= 1; sign += 2) {
            BellFoundry f = Making.rich();
            f.profile(0);
            for (int part = 0; part < 5; part++) {
                f.base(0, part, sign * 20000);
            }
            for (int h = 0; h < 4; h++) {
                Making.height(f, 0, h, 50, 0, 50 * sign, 50 * sign, 50 * sign, 50 * sign, 50 * sign);
            }
            f.cast(0);
            C.due("part", f.bellOf(0, 0), sign * 30000);
            C.due("30000 is within at first", f.tuning(0), 0);
            f.shape(0, 7, 4, 1);
            f.shape(0, 3, 4, sign);
            f.cast(0);
            C.due("30001 isn't", f.bellOf(1, 3), sign * 30001);
            C.due("a cut of it", f.tuning(1), 1);
            C.due("at the one height of 1", f.tuningAt(1, 4), 1);
            C.due("not at 0", f.tuningAt(1, 0), 0);
        }
    }

    private static void spanEdges() {
        BellFoundry f = one(100, 10, 3);
        f.span(0, 121, 121);
        dueCuts("130 to 121", f, 3);
        f.span(0, 122, 123);
        C.due("no third of it", f.tuning(0), -1);
        f.span(0, 122, 124);
        dueCuts("130 to 124", f, 2);
        f.span(0, 131, 140);
        C.due("cuts only lower it", f.tuning(0), -1);
        f = one(100, 10, -3);
        f.span(0, 76, 78);
        dueCuts("70 to 76", f, 2);
        f.span(0, 60, 69);
        C.due("cuts only raise it", f.tuning(0), -1);
    }

    private static void fewestCuts() {
        BellFoundry f = one(0, 12, 1, 2, 5, 10);
        f.span(0, 12 * 18 - 20, 12 * 18 - 20);
        dueCuts("20 as 10 and 10", f, 0, 0, 0, 2);
        f.span(0, 12 * 18 - 17, 12 * 18 - 17);
        dueCuts("17 as 10, 5, 2", f, 0, 1, 1, 1);
        f.span(0, 12 * 18 - 20, 12 * 18 - 17);
        dueCuts("17 .. 20", f, 0, 0, 0, 2);
        f.span(0, 12 * 18 - 4, 12 * 18 - 3);
        dueCuts("3 or 4 as 2 and 2", f, 0, 2, 0, 0);
    }

    private static void fewestAtLowHeights() {
        BellFoundry f = one(0, 12, 4, 4, 4, 4, 4, 4, 4, 4);
        f.span(0, 8 * 48 - 12, 8 * 48 - 12);
        dueCuts("all at the last", f, 0, 0, 0, 0, 0, 0, 0, 3);
        f = one(0, 2, 4, 4, 4, 4, 4, 4, 4, 4);
        f.span(0, 8 * 8 - 20, 8 * 8 - 20);
        dueCuts("two each from the last", f, 0, 0, 0, 0, 0, 1, 2, 2);
        f = one(0, 12, 3, 5, 1, 4);
        f.span(0, 12 * 13 - 6, 12 * 13 - 6);
        dueCuts("5 and 1 before 3 and 3", f, 0, 1, 1, 0);
        f = one(0, 12, 5, 3, 3, 1);
        f.span(0, 12 * 12 - 6, 12 * 12 - 6);
        dueCuts("none at 0, then none at 1", f, 0, 0, 2, 0);
    }

    private static void moreCutsAtALowHeightThanCanBeSpared() {
        BellFoundry f = Making.rich();
        f.profile(10);
        Making.height(f, 0, 0, 9, 0, 2);
        Making.height(f, 0, 5, 3, 1, 2);
        f.cast(0);
        f.span(0, 10, 10);
        dueCuts("what height 5 can't", f, 5, 0, 0, 0, 0, 2);
    }

    private static void leastIsKept() {
        BellFoundry f = Making.rich();
        f.profile(10);
        Making.height(f, 0, 0, 9, 7, 10);
        Making.height(f, 0, 7, 9, 0, 1);
        f.cast(0);
        f.span(0, 0, 79);
        dueCuts("99 to 79", f, 2);
        f.span(0, 0, 78);
        dueCuts("99 to 78", f, 2, 0, 0, 0, 0, 0, 0, 1);
        f.cut(0, 0);
        dueCuts("one is made", f, 1, 0, 0, 0, 0, 0, 0, 1);
        f.span(0, 0, 69);
        C.due("10 more", f.tuning(0), -1);
        f.span(0, 0, 70);
        dueCuts("9 more", f, 1, 0, 0, 0, 0, 0, 0, 9);
        f.cut(0, 0);
        dueCuts("both are made", f, 0, 0, 0, 0, 0, 0, 0, 9);
        f = Making.rich();
        f.profile(10);
        Making.height(f, 0, 2, 9, 0, 1);
        Making.height(f, 0, 6, 9, 8, 30);
        f.cast(0);
        f.span(0, 0, 9 + 240 - 1);
        dueCuts("one unit to spare above", f, 0, 0, 1, 0, 0, 0, 1);
    }

    private static void twelveAndThirteen() {
        BellFoundry f = one(0, 50, 1);
        f.span(0, 0, 38);
        dueCuts("twelve", f, 12);
        f.span(0, 0, 37);
        C.due("thirteen", f.tuning(0), -1);
        C.due("thirteen", f.tune(0), -1);
        C.due("thirteen", f.tuningAt(0, 0), -1);
        C.due("none was made", f.bellOf(0, 10), 50);
        f = one(0, 5, 1, 1, 1, 1, 1, 1, 1, 1);
        f.span(0, 28, 28);
        dueCuts("twelve over heights", f, 0, 0, 0, 0, 0, 2, 5, 5);
        f.span(0, 27, 27);
        C.due("thirteen over heights", f.tuning(0), -1);
    }

    private static void everyPartCounts() {
        for (int part = 0; part < 5; part++) {
            BellFoundry f = Making.rich();
            f.profile(10);
            f.shape(0, 7, 3, 20);
            f.shape(0, part, 3, 7);
            f.cast(0);
            C.yes("span", f.span(part, 0, 125));
            dueCuts("140 to 125 in part " + part, f, 0, 0, 0, 3);
            f.span((part + 1) % 5, 1, 1);
            C.due("another part is out", f.tuning(0), -1);
            f.span((part + 1) % 5, 0, 0);
            C.due("it is in", f.tuning(0), 3);
        }
        BellFoundry f = Making.rich();
        f.profile(10);
        Making.height(f, 0, 0, 10, 0, 1, 0, 0, 0, 0);
        Making.height(f, 0, 1, 10, 0, 0, 1, 0, 0, 0);
        Making.height(f, 0, 2, 10, 0, 0, 0, 1, 0, 0);
        Making.height(f, 0, 3, 10, 0, 0, 0, 0, 1, 0);
        Making.height(f, 0, 4, 10, 0, 0, 0, 0, 0, 1);
        Making.height(f, 0, 6, 10, 0, 1, 1, 1, 1, 1);
        f.cast(0);
        for (int part = 0; part < 5; part++) {
            f.span(part, 0, 19 - part);
        }
        dueCuts("five at once", f, 0, 0, 0, 0, 0, 0, 5);
        for (int part = 0; part < 5; part++) {
            f.span(part, 19 - part, 19 - part);
        }
        dueCuts("five at their points", f, 0, 1, 2, 3, 4, 0, 1);
    }

    private static void noneForOthers() {
        BellFoundry f = one(0, 10, 1);
        f.cast(0);
        f.cast(0);
        f.old(1);
        f.crack(2);
        int[] others = {-1, 1, 2, 3, 24, Integer.MIN_VALUE, Integer.MAX_VALUE};
        for (int bell : others) {
            C.due("tuning(" + bell + ")", f.tuning(bell), -1);
            C.due("tune(" + bell + ")", f.tune(bell), -1);
            C.due("tuningAt(" + bell + ", 0)", f.tuningAt(bell, 0), -1);
        }
        int[] heights = {-1, 8, Integer.MIN_VALUE, Integer.MAX_VALUE};
        for (int h : heights) {
            C.due("tuningAt(0, " + h + ")", f.tuningAt(0, h), -1);
        }
        C.due("tuning(0)", f.tuning(0), 0);
        f.span(0, 0, 8);
        C.due("tuning(0)", f.tuning(0), 2);
        f.old(0);
        C.due("old since", f.tuning(0), -1);
        C.due("old since", f.tuningAt(0, 0), -1);
        C.due("old since", f.tune(0), -1);
        C.due("thickness", f.bellOf(0, 10), 10);
    }

    private static void tuneMakesTheCuts() {
        BellFoundry f = Making.rich();
        f.profile(10);
        for (int h = 0; h < 8; h++) {
            Making.height(f, 0, h, 3, 1, 1);
            f.shape(0, 5, h, 20 + h);
        }
        f.cast(0);
        f.cast(0);
        f.span(0, 19, 19);
        C.due("tuning", f.tuning(0), 5);
        C.due("none is made", f.bellOf(0, 0), 24);
        C.due("no trimmings", f.about(4), 0);
        C.due("tune", f.tune(0), 5);
        int[] thick = {3, 3, 3, 3, 3, 2, 1, 1};
        for (int h = 0; h < 8; h++) {
            C.due("thickness", f.bellOf(0, 10 + h), thick[h]);
            C.due("the other's", f.bellOf(1, 10 + h), 3);
        }
        C.due("part", f.bellOf(0, 0), 19);
        C.due("trimmings", f.about(4), 25 + 2 * 26 + 2 * 27);
        C.due("metal", f.about(4) + f.about(5), 2 * f.bellOf(1, 5));
        C.due("tuned", f.tuning(0), 0);
        C.due("tune again", f.tune(0), 0);
        f.span(0, 18, 18);
        C.due("tune by one", f.tune(0), 1);
        C.due("it is made", f.bellOf(0, 15), 1);
        f.span(0, 19, 24);
        C.due("nothing comes back", f.tune(0), -1);
        C.due("trimmings", f.about(4), 2 * 25 + 2 * 26 + 2 * 27);
    }

    private static void planIsMadeAnew() {
        BellFoundry f = one(0, 20, 2, 3);
        f.cast(0);
        f.span(0, 95, 95);
        dueCuts("5 of 100", f, 1, 1);
        C.due("the other", f.tuning(1), 2);
        f.cut(0, 0);
        dueCuts("one was made", f, 0, 1);
        C.due("the other as it was", f.tuningAt(1, 0), 1);
        f.span(0, 92, 92);
        dueCuts("another span", f, 0, 2);
        C.due("the other by it", f.tuning(1), 3);
        f.tune(0);
        dueCuts("tuned", f);
        f.span(1, 1, 1);
        C.due("another part's span", f.tuning(0), -1);
    }

    /** Narrow spans that no cuts meet: all calls of a run may be of these. */
    private static void hardSearches() {
        BellFoundry f = Making.rich();
        f.profile(10);
        int[][] tables = {
            {50, -50, 48, -46, 44, -42, 40, -38}, {-30, 32, -34, 36, -38, 40, -42, 44},
            {2, 4, 6, 8, -2, -4, -6, -8}, {10, -10, 20, -20, 30, -30, 40, -40}, {0, 0, 0, 0, 0, 0, 0, 0}};
        for (int h = 0; h < 8; h++) {
            Making.height(f, 0, h, 99, 0, tables[0][h], tables[1][h], tables[2][h], tables[3][h], tables[4][h]);
        }
        f.cast(0);
        f.span(0, f.bellOf(0, 0) - 40, f.bellOf(0, 0) + 40);
        f.span(1, f.bellOf(0, 1) - 40, f.bellOf(0, 1) + 40);
        for (int i = 0; i < 400; i++) {
            f.span(2, f.bellOf(0, 2) + 1, f.bellOf(0, 2) + 1);
            C.due("even numbers make no odd one", f.tuning(0), -1);
        }
    }
}
