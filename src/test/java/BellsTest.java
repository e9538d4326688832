/** Promises 5 to 10: buy, cast, cut, old, crack, bellOf. */
public final class BellsTest {
    private static final Check C = new Check("bells");

    public static void main(String[] args) {
        buy();
        buyTillFull();
        charges();
        castTakesHeapFirst();
        castLacking();
        castRefuses();
        profileAsItWas();
        cut();
        old();
        crack();
        bellOf();
        C.end();
    }

    private static void buy() {
        BellFoundry f = new BellFoundry();
        C.no("copper -1", f.buy(-1, 5));
        C.no("tin -1", f.buy(5, -1));
        C.no("copper 1000001", f.buy(1000001, 5));
        C.no("tin 1000001", f.buy(5, 1000001));
        C.no("least int", f.buy(Integer.MIN_VALUE, Integer.MIN_VALUE));
        C.no("most int", f.buy(Integer.MAX_VALUE, Integer.MAX_VALUE));
        C.due("no copper", f.about(2), 0);
        C.due("no tin", f.about(3), 0);
        C.yes("nothing", f.buy(0, 0));
        C.yes("most", f.buy(1000000, 3));
        C.yes("more", f.buy(2, 1000000));
        C.due("copper", f.about(2), 1000002);
        C.due("tin", f.about(3), 1000003);
    }

    private static void buyTillFull() {
        BellFoundry f = new BellFoundry();
        for (int i = 0; i < 100; i++) {
            C.yes("buy " + i, f.buy(1000000, i == 0 ? 0 : 1000000));
        }
        C.due("copper is full", f.about(2), 100000000);
        C.no("copper above", f.buy(1, 5));
        C.due("tin did not come alone", f.about(3), 99000000);
        C.yes("tin to the edge", f.buy(0, 1000000));
        C.no("tin above", f.buy(0, 1));
        C.due("tin is full", f.about(3), 100000000);
        C.yes("none of both", f.buy(0, 0));
    }

    private static void charges() {
        int[] weights = {0, 1, 4, 5, 99, 100, 101, 154, 4999};
        for (int weight : weights) {
            BellFoundry f = new BellFoundry();
            f.profile(weight);
            f.buy(10000, 10000);
            C.due("cast of " + weight, f.cast(0), 0);
            int copper = (77 * weight + 99) / 100;
            C.due("copper for " + weight, f.about(2), 10000 - copper);
            C.due("tin for " + weight, f.about(3), 10000 - (weight - copper));
            C.due("metal of bells", f.about(5), weight);
        }
    }

    private static void castTakesHeapFirst() {
        BellFoundry f = new BellFoundry();
        f.profile(100);
        f.profile(30);
        f.buy(77, 23);
        C.due("just enough", f.cast(0), 0);
        C.due("no copper left", f.about(2), 0);
        C.due("no tin left", f.about(3), 0);
        f.crack(0);
        C.due("heap of the cracked bell", f.about(4), 100);
        for (int b = 1; b <= 3; b++) {
            C.due("from the heap alone", f.cast(1), b);
            C.due("heap goes down", f.about(4), 100 - 30 * b);
        }
        C.due("20 lack", f.cast(1), -1);
        C.due("heap stays", f.about(4), 10);
        f.buy(16, 4);
        C.due("20 are 16 and 4", f.cast(1), 4);
        C.due("heap", f.about(4), 0);
        C.due("copper", f.about(2), 0);
        C.due("tin", f.about(3), 0);
        C.due("metal of sound bells", f.about(5), 120);
    }

    private static void castLacking() {
        BellFoundry f = new BellFoundry();
        f.profile(100);
        f.buy(76, 1000);
        C.due("copper lacks", f.cast(0), -1);
        f.buy(1, 0);
        C.due("copper does", f.cast(0), 0);
        f.buy(1000, 0);
        C.due("tin", f.about(3), 977);
        f = new BellFoundry();
        f.profile(100);
        f.buy(1000, 22);
        C.due("tin lacks", f.cast(0), -1);
        C.due("copper stays", f.about(2), 1000);
        C.due("tin stays", f.about(3), 22);
        C.due("no bell", f.about(1), 0);
        f.buy(0, 1);
        C.due("tin does", f.cast(0), 0);
    }

    private static void castRefuses() {
        BellFoundry f = Making.rich();
        C.due("no profile", f.cast(0), -1);
        f.profile(1);
        C.due("profile 1", f.cast(1), -1);
        C.due("profile -1", f.cast(-1), -1);
        C.due("least int", f.cast(Integer.MIN_VALUE), -1);
        C.due("most int", f.cast(Integer.MAX_VALUE), -1);
        for (int b = 0; b < 24; b++) {
            C.due("bell", f.cast(0), b);
        }
        C.due("a 25th", f.cast(0), -1);
        f.crack(5);
        C.due("a cracked one keeps its place", f.cast(0), -1);
        C.due("24 bells", f.about(1), 24);
        C.due("their metal", f.about(5), 23);
        C.due("their pulls", f.about(8), 0);
        C.due("bellOf a 25th", f.bellOf(24, 5), -100000);
        C.due("cut of a 25th", f.cut(24, 0), -1);
        C.no("old", f.old(24));
        C.no("crack", f.crack(24));
        C.no("hang", f.hang(24, 0));
        C.due("the last", f.bellOf(23, 5), 1);
        C.due("copper of 24", f.about(2), 1000000 - 24);
    }

    private static void profileAsItWas() {
        BellFoundry f = Making.rich();
        f.profile(50);
        Making.height(f, 0, 2, 10, 5, 3, -4);
        f.shape(0, 5, 2, 7);
        f.base(0, 0, 100);
        f.cast(0);
        f.shape(0, 7, 2, 99);
        f.shape(0, 6, 2, 9);
        f.shape(0, 5, 2, 50);
        f.shape(0, 0, 2, -50);
        f.base(0, 0, -9);
        f.shape(0, 7, 3, 9);
        C.due("weight as it was", f.bellOf(0, 5), 50 + 70);
        C.due("part 0 as it was", f.bellOf(0, 0), 130);
        C.due("part 1 as it was", f.bellOf(0, 1), -40);
        C.due("no new thickness", f.bellOf(0, 13), 0);
        for (int t = 9; t >= 5; t--) {
            C.due("cut to the least as it was", f.cut(0, 2), t);
        }
        C.due("not below", f.cut(0, 2), -1);
        C.due("metal as it was", f.about(4), 35);
        C.due("the next is by the new", f.cast(0), 1);
        C.due("its thickness", f.bellOf(1, 12), 99);
        C.due("its weight", f.bellOf(1, 5), 50 + 50 * 99 + 9);
        C.due("its part", f.bellOf(1, 0), -9 - 50 * 99);
    }

    private static void cut() {
        BellFoundry f = Making.rich();
        f.profile(50);
        for (int h = 0; h < 8; h++) {
            Making.height(f, 0, h, 2, h % 2, h, -h, 1);
            f.shape(0, 5, h, 10 + h);
        }
        f.cast(0);
        f.cast(0);
        String before = Making.all(f);
        int[][] wrong = {{-1, 0}, {2, 0}, {24, 0}, {0, -1}, {0, 8}, {Integer.MIN_VALUE, 0},
            {Integer.MAX_VALUE, 0}, {0, Integer.MIN_VALUE}, {0, Integer.MAX_VALUE}};
        for (int[] w : wrong) {
            C.due("cut(" + w[0] + ", " + w[1] + ")", f.cut(w[0], w[1]), -1);
        }
        C.yes("nothing changed", before.equals(Making.all(f)));
        int weight = f.bellOf(0, 5);
        int part = f.bellOf(0, 0);
        for (int h = 0; h < 8; h++) {
            C.due("cut at " + h, f.cut(0, h), 1);
            weight -= 10 + h;
            part -= h;
            C.due("weight", f.bellOf(0, 5), weight);
            C.due("part 0", f.bellOf(0, 0), part);
            C.due("again at " + h, f.cut(0, h), h % 2 == 1 ? -1 : 0);
            if (h % 2 == 0) {
                weight -= 10 + h;
                part -= h;
                C.due("not below 0", f.cut(0, h), -1);
            }
        }
        C.due("heap and bells together", f.about(4) + f.about(5), 2 * f.bellOf(1, 5));
        C.due("the other bell is whole", f.bellOf(1, 10), 2);
    }

    private static void old() {
        BellFoundry f = Making.rich();
        f.profile(50);
        Making.height(f, 0, 0, 9, 0, 1);
        C.no("no bell", f.old(0));
        f.cast(0);
        f.cast(0);
        C.due("not old at first", f.bellOf(0, 6), 0);
        C.yes("old", f.old(0));
        C.due("old", f.bellOf(0, 6), 1);
        C.due("the other isn't", f.bellOf(1, 6), 0);
        C.yes("old again", f.old(0));
        C.due("isn't cut", f.cut(0, 0), -1);
        C.due("isn't tuned", f.tuning(0), -1);
        C.due("heap", f.about(4), 0);
        C.no("bell 2", f.old(2));
        C.no("bell -1", f.old(-1));
        C.no("most int", f.old(Integer.MAX_VALUE));
        f.crack(1);
        C.yes("a cracked one too", f.old(1));
        C.due("it is old", f.bellOf(1, 6), 1);
        C.yes("an old one cracks", f.crack(0));
    }

    private static void crack() {
        BellFoundry f = Making.rich();
        f.profile(50);
        Making.height(f, 0, 0, 9, 0, 1);
        C.no("no bell", f.crack(0));
        f.cast(0);
        f.cast(0);
        f.tower(2, 100, 1000);
        f.hang(1, 2);
        f.hang(0, 2);
        f.cut(0, 0);
        f.note(0);
        C.due("in a ring", f.ringBell(0), 0);
        C.due("pulls", f.about(8), 58 + 59);
        C.yes("crack", f.crack(0));
        C.due("it is cracked", f.bellOf(0, 7), 1);
        C.due("the other isn't", f.bellOf(1, 7), 0);
        C.due("its weight as it was", f.bellOf(0, 5), 58);
        C.due("heap", f.about(4), 1 + 58);
        C.due("metal of sound bells", f.about(5), 59);
        C.due("hangs no more", f.bellOf(0, 8), -1);
        C.due("pulls no more", f.bellOf(0, 9), 0);
        C.due("pulls together", f.about(8), 59);
        C.due("still a bell", f.about(1), 2);
        C.no("again", f.crack(0));
        C.due("heap once", f.about(4), 59);
        C.due("isn't cut", f.cut(0, 0), -1);
        C.due("isn't tuned", f.tuning(0), -1);
        C.due("isn't tuned", f.tune(0), -1);
        C.due("isn't tuned at", f.tuningAt(0, 0), -1);
        C.no("isn't hung", f.hang(0, 2));
        C.no("isn't taken down", f.hang(0, -1));
        C.due("isn't in a ring", f.ringBell(0), 1);
        C.due("thickness as it was", f.bellOf(0, 10), 8);
        C.no("bell 2", f.crack(2));
        C.no("bell -1", f.crack(-1));
        C.no("least int", f.crack(Integer.MIN_VALUE));
    }

    private static void bellOf() {
        BellFoundry f = Making.rich();
        f.profile(1);
        f.profile(5000);
        for (int h = 0; h < 8; h++) {
            Making.height(f, 1, h, 99 - h, 0, 50, -50, h, -h, 0);
            f.shape(1, 5, h, 50);
        }
        f.base(1, 0, 20000);
        f.base(1, 1, -20000);
        f.base(1, 4, 77);
        f.cast(1);
        int units = 8 * 99 - 28;
        C.due("part 0", f.bellOf(0, 0), 20000 + 50 * units);
        C.due("part 1", f.bellOf(0, 1), -20000 - 50 * units);
        int sloping = 0;
        for (int h = 0; h < 8; h++) {
            sloping += h * (99 - h);
            C.due("thickness", f.bellOf(0, 10 + h), 99 - h);
        }
        C.due("part 2", f.bellOf(0, 2), sloping);
        C.due("part 3", f.bellOf(0, 3), -sloping);
        C.due("part 4", f.bellOf(0, 4), 77);
        C.due("weight", f.bellOf(0, 5), 5000 + 50 * units);
        C.due("old", f.bellOf(0, 6), 0);
        C.due("cracked", f.bellOf(0, 7), 0);
        C.due("way", f.bellOf(0, 8), -1);
        C.due("pull", f.bellOf(0, 9), 0);
        C.due("profile", f.bellOf(0, 18), 1);
        int[] others = {-1, 19, 20, 100, Integer.MIN_VALUE, Integer.MAX_VALUE};
        for (int what : others) {
            C.due("what " + what, f.bellOf(0, what), -100000);
            C.due("bell " + what, f.bellOf(what, 5), -100000);
        }
        C.due("bell 1", f.bellOf(1, 5), -100000);
        f.tower(3, 150, 1000000);
        f.hang(0, 3);
        C.due("way", f.bellOf(0, 8), 3);
        C.due("pull", f.bellOf(0, 9), (5000 + 50 * units) * 150 / 100);
    }
}
