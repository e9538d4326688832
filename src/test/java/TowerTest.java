/** Promises 19 to 21: tower, hang, about. */
public final class TowerTest {
    private static final Check C = new Check("tower");
    private static final int[] FAR = {Integer.MIN_VALUE, -2, 5, 6, Integer.MAX_VALUE};

    public static void main(String[] args) {
        towerRefuses();
        towerEdges();
        towerHolds();
        pullsAreCutOneByOne();
        hangRefuses();
        hangInPlaceOfItsOwn();
        takenDown();
        cutsLessenPulls();
        about();
        C.end();
    }

    private static BellFoundry with(int... weights) {
        BellFoundry f = Making.rich();
        for (int p = 0; p < weights.length; p++) {
            Making.plain(f, weights[p], 0);
            f.cast(p);
        }
        return f;
    }

    private static void towerRefuses() {
        BellFoundry f = with(100);
        f.tower(2, 30, 500);
        String before = Making.all(f);
        for (int way : FAR) {
            C.no("way " + way, f.tower(way, 10, 10));
        }
        C.no("share -1", f.tower(2, -1, 10));
        C.no("share 301", f.tower(2, 301, 10));
        C.no("share least int", f.tower(2, Integer.MIN_VALUE, 10));
        C.no("share most int", f.tower(2, Integer.MAX_VALUE, 10));
        C.no("bears -1", f.tower(2, 10, -1));
        C.no("bears 1000001", f.tower(2, 10, 1000001));
        C.no("bears least int", f.tower(-1, 10, Integer.MIN_VALUE));
        C.no("bears most int", f.tower(-1, 10, Integer.MAX_VALUE));
        C.yes("nothing changed", before.equals(Making.all(f)));
    }

    private static void towerEdges() {
        BellFoundry f = with(100);
        for (int way = 0; way < 5; way++) {
            C.yes("way " + way, f.tower(way, 300 - way, 1000000 - way));
            C.due("share", f.about(10 + way), 300 - way);
            C.due("bears", f.about(9), 1000000 - way);
        }
        C.yes("share is not looked at", f.tower(-1, 999, 77));
        C.yes("share is not looked at", f.tower(-1, Integer.MIN_VALUE, 1000000));
        for (int way = 0; way < 5; way++) {
            C.due("shares stay", f.about(10 + way), 300 - way);
        }
        C.yes("nothing", f.tower(3, 0, 0));
        C.due("share 0", f.about(13), 0);
        C.due("bears 0", f.about(9), 0);
    }

    private static void towerHolds() {
        BellFoundry f = with(100, 200, 300);
        f.tower(0, 50, 1000);
        f.tower(1, 100, 1000);
        f.hang(0, 0);
        f.hang(1, 1);
        C.due("pulls", f.about(8), 250);
        C.yes("bears 250", f.tower(-1, 0, 250));
        C.no("bears 249", f.tower(-1, 0, 249));
        C.due("bears", f.about(9), 250);
        C.no("share above", f.tower(0, 51, 250));
        C.due("share stays", f.about(10), 50);
        C.yes("share and more borne", f.tower(0, 51, 251));
        C.due("pull", f.bellOf(0, 9), 51);
        C.yes("share down, less borne", f.tower(1, 20, 91));
        C.due("pulls", f.about(8), 91);
        C.no("other ways stay", f.tower(1, 21, 91));
        C.yes("a way without bells", f.tower(4, 300, 91));
        C.no("a way without bells, too little borne", f.tower(4, 200, 90));
        C.due("its share stays", f.about(14), 300);
        f.crack(1);
        C.yes("a cracked bell doesn't pull", f.tower(1, 300, 51));
    }

    private static void pullsAreCutOneByOne() {
        BellFoundry f = with(199, 199, 199);
        f.tower(0, 50, 297);
        for (int b = 0; b < 3; b++) {
            C.yes("hang " + b, f.hang(b, 0));
            C.due("pull", f.bellOf(b, 9), 99);
        }
        C.due("together", f.about(8), 297);
        C.yes("one unit of a hundred", f.tower(0, 1, 3));
        C.due("together", f.about(8), 3);
        C.no("bears 2", f.tower(0, 1, 2));
    }

    private static void hangRefuses() {
        BellFoundry f = with(100, 200);
        C.yes("share 0 at first, bears 0 at first", f.hang(0, 4));
        C.due("way", f.bellOf(0, 8), 4);
        C.due("pull", f.bellOf(0, 9), 0);
        f.tower(0, 100, 300);
        f.tower(1, 101, 300);
        String before = Making.all(f);
        for (int way : FAR) {
            C.no("way " + way, f.hang(0, way));
        }
        int[] others = {Integer.MIN_VALUE, -1, 2, 24, Integer.MAX_VALUE};
        for (int bell : others) {
            C.no("bell " + bell, f.hang(bell, 0));
            C.no("bell down " + bell, f.hang(bell, -1));
        }
        C.yes("nothing changed", before.equals(Making.all(f)));
        C.yes("to the edge", f.hang(0, 0));
        C.no("above it", f.hang(1, 1));
        C.due("it doesn't hang", f.bellOf(1, 8), -1);
        C.yes("to the edge", f.hang(1, 0));
        C.no("above it", f.hang(0, 1));
        C.due("it hangs as it did", f.bellOf(0, 8), 0);
        C.due("pulls", f.about(8), 300);
        f.crack(0);
        C.no("cracked", f.hang(0, 4));
        C.no("cracked, down", f.hang(0, -1));
        f.old(1);
        C.yes("an old one hangs", f.hang(1, 1));
    }

    private static void hangInPlaceOfItsOwn() {
        BellFoundry f = with(100, 50);
        f.tower(0, 100, 100);
        f.tower(1, 90, 100);
        f.tower(2, 101, 100);
        f.hang(0, 0);
        C.yes("again by the same", f.hang(0, 0));
        C.yes("by another", f.hang(0, 1));
        C.due("way", f.bellOf(0, 8), 1);
        C.due("pull", f.bellOf(0, 9), 90);
        C.no("no room for the other", f.hang(1, 0));
        C.no("too much", f.hang(0, 2));
        C.due("way stays", f.bellOf(0, 8), 1);
        C.yes("back", f.hang(0, 0));
        C.due("pulls", f.about(8), 100);
    }

    private static void takenDown() {
        BellFoundry f = with(100, 50);
        f.tower(0, 100, 100);
        C.yes("one that doesn't hang", f.hang(0, -1));
        f.hang(0, 0);
        C.no("the other", f.hang(1, 0));
        C.yes("down", f.hang(0, -1));
        C.due("way", f.bellOf(0, 8), -1);
        C.due("pull", f.bellOf(0, 9), 0);
        C.due("pulls", f.about(8), 0);
        C.yes("the other", f.hang(1, 0));
        C.due("pulls", f.about(8), 50);
    }

    private static void cutsLessenPulls() {
        BellFoundry f = Making.rich();
        f.profile(100);
        Making.height(f, 0, 0, 10, 0, 1);
        f.shape(0, 5, 0, 10);
        f.cast(0);
        f.tower(0, 100, 200);
        f.hang(0, 0);
        f.cut(0, 0);
        C.due("pull", f.bellOf(0, 9), 190);
        f.span(0, 0, 7);
        f.tune(0);
        C.due("pulls", f.about(8), 170);
        C.due("it hangs", f.bellOf(0, 8), 0);
        C.yes("bears 170", f.tower(-1, 0, 170));
    }

    private static void about() {
        BellFoundry f = with(100, 200, 300);
        f.ring(9);
        f.note(1);
        f.note(2);
        for (int way = 0; way < 5; way++) {
            f.tower(way, 10 * way + 10, 5000);
        }
        f.hang(2, 4);
        f.hang(0, 1);
        f.crack(1);
        f.cast(0);
        int[] due = {3, 4, 1000000 - 77 - 154 - 231, 1000000 - 23 - 46 - 69, 100, 500, 2, 9, 150 + 20, 5000,
            10, 20, 30, 40, 50};
        for (int what = 0; what < due.length; what++) {
            C.due("about(" + what + ")", f.about(what), due[what]);
        }
        int[] others = {Integer.MIN_VALUE, -1, 15, 16, 100, Integer.MAX_VALUE};
        for (int what : others) {
            C.due("about(" + what + ")", f.about(what), -1);
        }
    }
}
