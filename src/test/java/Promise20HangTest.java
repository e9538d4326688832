/** Promise 20: hang. */
public final class Promise20HangTest {
    private static final Check C = new Check("promise 20");

    public static void main(String[] args) {
        byAWay();
        inPlaceOfItsOwn();
        takenDown();
        others();
        cracked();
        pullsWouldBeAbove();
        allBellsAtOnce();
        C.end();
    }

    private static void byAWay() {
        C.sentence("A bell is hung by a WAY");
        for (int way = 0; way < 5; way++) {
            BellFoundry f = Making.withBells(100, 200);
            f.tower(way, 30 + way, 1000);
            C.due("doesn't hang at first", f.bellOf(1, 8), -1);
            C.yes("hang by " + way, f.hang(1, way));
            C.due("way", f.bellOf(1, 8), way);
            C.due("pull", f.bellOf(1, 9), 2 * (30 + way));
            C.due("the other doesn't hang", f.bellOf(0, 8), -1);
            C.due("pulls", f.about(8), 2 * (30 + way));
        }
        BellFoundry f = Making.withBells(100);
        C.yes("share 0, bears 0", f.hang(0, 4));
        C.due("it hangs", f.bellOf(0, 8), 4);
        C.due("without a pull", f.bellOf(0, 9), 0);
    }

    private static BellFoundry oneHung() {
        BellFoundry f = Making.withBells(100, 50);
        f.tower(0, 100, 100);
        f.tower(1, 90, 100);
        f.tower(2, 101, 100);
        f.hang(0, 0);
        return f;
    }

    private static void inPlaceOfItsOwn() {
        C.sentence("(in place of its own)");
        Twins.leaves(C, "by its own again", Promise20HangTest::oneHung, 1, f -> f.hang(0, 0) ? 1 : 0);
        BellFoundry f = oneHung();
        C.yes("by another", f.hang(0, 1));
        C.due("way", f.bellOf(0, 8), 1);
        C.due("pulls", f.about(8), 90);
        C.yes("back", f.hang(0, 0));
        C.due("pulls", f.about(8), 100);
        Twins.refuses(C, "by one too strong", Promise20HangTest::oneHung, x -> x.hang(0, 2));
    }

    private static void takenDown() {
        C.sentence("or (NONE) taken down: true");
        BellFoundry f = oneHung();
        C.no("no room for the other", f.hang(1, 0));
        C.yes("down", f.hang(0, -1));
        C.due("way", f.bellOf(0, 8), -1);
        C.due("pull", f.bellOf(0, 9), 0);
        C.due("pulls", f.about(8), 0);
        C.yes("room for the other", f.hang(1, 0));
        Twins.leaves(C, "one that doesn't hang", Promise20HangTest::oneHung, 1, x -> x.hang(1, -1) ? 1 : 0);
    }

    private static void others() {
        C.sentence("False, changing nothing: others");
        for (int bell : Twins.others(-2, -1, 4, 5, 23, 24)) {
            for (int way = -1; way < 5; way++) {
                int by = way;
                Twins.refuses(C, "hang(" + bell + ", " + way + ")", Making::busy, f -> f.hang(bell, by));
            }
        }
        for (int way : Twins.others(-3, -2, 5, 6)) {
            for (int bell = 0; bell < 4; bell++) {
                int of = bell;
                Twins.refuses(C, "hang(" + bell + ", " + way + ")", Making::busy, f -> f.hang(of, way));
            }
        }
        C.yes("bell 23 of 24", Making.fullOfBells().hang(23, 4));
        Twins.refuses(C, "bell 24 of 24", Making::fullOfBells, f -> f.hang(24, 4));
    }

    private static void cracked() {
        C.sentence("False, changing nothing: .. CRACKED");
        for (int way = -1; way < 5; way++) {
            int by = way;
            Twins.refuses(C, "hang(2, " + way + ")", Making::busy, f -> f.hang(2, by));
        }
    }

    private static BellFoundry bears(int most) {
        BellFoundry f = Making.withBells(100, 200);
        f.tower(0, 100, most);
        f.tower(1, 101, most);
        f.hang(0, 0);
        return f;
    }

    private static void pullsWouldBeAbove() {
        C.sentence("or pulls would be above what the tower bears");
        BellFoundry f = bears(300);
        C.yes("300 of 300", f.hang(1, 0));
        C.due("pulls", f.about(8), 300);
        C.no("301 of 300", f.hang(0, 1));
        C.due("it hangs as it did", f.bellOf(0, 8), 0);
        Twins.refuses(C, "300 of 299", () -> bears(299), x -> x.hang(1, 0));
        Twins.refuses(C, "302 of 301", () -> bears(301), x -> x.hang(1, 1));
        C.yes("302 of 302", bears(302).hang(1, 1));
        Twins.refuses(C, "100 of 0", () -> bears(0), x -> x.hang(0, 0));
        f = Making.withBells(99);
        f.tower(0, 1, 0);
        C.yes("99 by 1 of a hundred is 0", f.hang(0, 0));
    }

    private static void allBellsAtOnce() {
        C.sentence("or pulls would be above what the tower bears");
        BellFoundry f = Making.rich();
        f.buy(1000000, 1000000);
        f.profile(5000);
        for (int h = 0; h < 8; h++) {
            f.shape(0, 5, h, 50);
            f.shape(0, 7, h, 99);
        }
        f.tower(4, 300, 1000000);
        for (int b = 0; b < 24; b++) {
            f.cast(0);
            C.due("133800 each, of 1000000", f.hang(b, 4) ? 1 : 0, b < 7 ? 1 : 0);
        }
        C.due("pulls of seven", f.about(8), 7 * 133800);
        for (int b = 0; b < 24; b++) {
            C.yes("without a share", f.hang(b, 3));
        }
        C.no("44600 a hundred, 24 of them", f.tower(3, 100, 1000000));
        C.yes("93 of a hundred, 24 of them", f.tower(3, 93, 1000000));
        C.due("pulls of all", f.about(8), 24 * 41478);
        C.no("94 of a hundred", f.tower(3, 94, 1000000));
    }
}
