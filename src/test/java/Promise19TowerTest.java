/** Promise 19: tower. */
public final class Promise19TowerTest {
    private static final Check C = new Check("promise 19");

    public static void main(String[] args) {
        shares();
        bears();
        otherWays();
        pullsWouldBeAboveIt();
        aShareThatPullsTooMuch();
        wayNone();
        crackedBellsDoNotPull();
        C.end();
    }

    private static void shares() {
        C.sentence("a SHARE (0 .. 300; at first 0)");
        int[] taken = {0, 1, 299, 300};
        for (int way = 0; way < 5; way++) {
            int by = way;
            C.due("at first", new BellFoundry().about(10 + way), 0);
            for (int share : taken) {
                BellFoundry f = new BellFoundry();
                C.yes("share " + share + " of " + way, f.tower(way, share, 9));
                for (int other = 0; other < 5; other++) {
                    C.due("share of " + other, f.about(10 + other), other == way ? share : 0);
                }
            }
            for (int share : Twins.others(-1, 301)) {
                Twins.refuses(C, "share " + share + " of " + way, Making::busy, f -> f.tower(by, share, 1000));
            }
        }
    }

    private static void bears() {
        C.sentence("The tower bears so much (0 .. 1000000; at first 0).");
        C.due("at first", new BellFoundry().about(9), 0);
        int[] taken = {0, 1, 999999, 1000000};
        for (int bears : taken) {
            for (int way = -1; way < 5; way++) {
                BellFoundry f = new BellFoundry();
                C.yes("bears " + bears, f.tower(way, 7, bears));
                C.due("told", f.about(9), bears);
            }
        }
        for (int bears : Twins.others(-1, 1000001)) {
            Twins.refuses(C, "bears " + bears, Making::busy, f -> f.tower(2, 10, bears));
            Twins.refuses(C, "bears " + bears + ", way NONE", Making::busy, f -> f.tower(-1, 10, bears));
            Twins.refuses(C, "bears " + bears + ", no bells", BellFoundry::new, f -> f.tower(0, 10, bears));
        }
    }

    private static void otherWays() {
        C.sentence("False, changing nothing: others");
        for (int way : Twins.others(-3, -2, 5, 6)) {
            Twins.refuses(C, "way " + way, Making::busy, f -> f.tower(way, 10, 1000));
            Twins.refuses(C, "way " + way + ", nothing hangs", BellFoundry::new, f -> f.tower(way, 0, 0));
        }
    }

    /** Bell 0 of 100 by way 0 of 50, bell 1 of 200 by way 1 of 100: pulls of 250, just borne. */
    private static BellFoundry twoHung() {
        BellFoundry f = Making.withBells(100, 200, 300);
        f.tower(0, 50, 250);
        f.tower(1, 100, 250);
        f.hang(0, 0);
        f.hang(1, 1);
        return f;
    }

    private static void pullsWouldBeAboveIt() {
        C.sentence("or pulls of bells that hang would be above it");
        C.due("pulls", twoHung().about(8), 250);
        C.yes("bears 250", twoHung().tower(-1, 0, 250));
        C.yes("bears 250 with a share of a way without bells", twoHung().tower(4, 300, 250));
        for (int bears = 0; bears < 250; bears += 83) {
            int most = bears;
            Twins.refuses(C, "bears " + bears, Promise19TowerTest::twoHung, f -> f.tower(-1, 0, most));
            Twins.refuses(C, "bears " + bears + ", a way without bells", Promise19TowerTest::twoHung, f -> f.tower(4, 30, most));
        }
        BellFoundry f = twoHung();
        C.yes("a share less and so much less borne", f.tower(1, 20, 90));
        C.due("pulls", f.about(8), 90);
        C.due("bears", f.about(9), 90);
        f.hang(0, -1);
        C.yes("one hangs no more", f.tower(-1, 0, 40));
        C.no("the other does", f.tower(-1, 0, 39));
        f.hang(1, -1);
        C.yes("none hangs", f.tower(1, 300, 0));
    }

    private static void aShareThatPullsTooMuch() {
        C.sentence("or pulls of bells that hang would be above it");
        Twins.refuses(C, "share 51", Promise19TowerTest::twoHung, f -> f.tower(0, 51, 250));
        Twins.refuses(C, "share 300", Promise19TowerTest::twoHung, f -> f.tower(1, 300, 649));
        Twins.refuses(C, "share 49, bears 248", Promise19TowerTest::twoHung, f -> f.tower(0, 49, 248));
        BellFoundry f = twoHung();
        C.yes("share 51, bears 251", f.tower(0, 51, 251));
        C.due("pull", f.bellOf(0, 9), 51);
        C.due("share", f.about(10), 51);
        C.yes("share 300, bears 651", f.tower(1, 300, 651));
        C.due("pulls", f.about(8), 651);
        C.yes("share 49, bears 649", f.tower(0, 49, 649));
    }

    private static void wayNone() {
        C.sentence("(way NONE: the SHARES stay, share isn't looked at.)");
        for (int share : Twins.others(-1, 0, 300, 301)) {
            BellFoundry f = twoHung();
            C.yes("share " + share, f.tower(-1, share, 777));
            C.due("bears", f.about(9), 777);
            C.due("pulls", f.about(8), 250);
            for (int way = 0; way < 5; way++) {
                C.due("share of " + way, f.about(10 + way), way == 0 ? 50 : way == 1 ? 100 : 0);
            }
            Twins.refuses(C, "bears too little, share " + share, Promise19TowerTest::twoHung, x -> x.tower(-1, share, 249));
            Twins.leaves(C, "as it is, share " + share, Promise19TowerTest::twoHung, 1, x -> x.tower(-1, share, 250) ? 1 : 0);
        }
    }

    private static void crackedBellsDoNotPull() {
        C.sentence("or pulls of bells that hang would be above it");
        BellFoundry f = twoHung();
        f.crack(1);
        C.yes("a share of its way", f.tower(1, 300, 50));
        C.no("the other pulls", f.tower(1, 300, 49));
    }
}
