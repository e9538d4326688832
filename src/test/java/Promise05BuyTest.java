/** Promise 5: buy. */
public final class Promise05BuyTest {
    private static final Check C = new Check("promise 5");
    private static final int FULL = 100000000;

    public static void main(String[] args) {
        numbers();
        others();
        copperWouldBeAbove();
        tinWouldBeAbove();
        roomAgainBehindACasting();
        theHeapIsApart();
        C.end();
    }

    private static void numbers() {
        C.sentence("Copper and tin (0 .. 1000000 each) come there: true.");
        BellFoundry f = new BellFoundry();
        C.yes("nothing", f.buy(0, 0));
        C.yes("most copper", f.buy(1000000, 0));
        C.yes("most tin", f.buy(0, 1000000));
        C.yes("one and two", f.buy(1, 2));
        C.yes("most of both", f.buy(1000000, 1000000));
        C.due("copper", f.about(2), 2000001);
        C.due("tin", f.about(3), 2000002);
    }

    private static void others() {
        C.sentence("False for others");
        for (int v : Twins.others(-1, 1000001)) {
            Twins.refuses(C, "copper " + v, Making::busy, f -> f.buy(v, 5));
            Twins.refuses(C, "tin " + v, Making::busy, f -> f.buy(5, v));
            Twins.refuses(C, "both " + v, Making::busy, f -> f.buy(v, v));
            Twins.refuses(C, "copper " + v + " of none", BellFoundry::new, f -> f.buy(v, 0));
            Twins.refuses(C, "tin " + v + " of none", BellFoundry::new, f -> f.buy(0, v));
        }
    }

    /** Bought up to so much less than full. */
    private static BellFoundry stored(int copperLess, int tinLess) {
        BellFoundry f = new BellFoundry();
        for (int i = 0; i < 99; i++) {
            f.buy(1000000, 1000000);
        }
        f.buy(1000000 - copperLess, 1000000 - tinLess);
        return f;
    }

    private static void copperWouldBeAbove() {
        C.sentence("or if one would be above 100000000");
        BellFoundry f = stored(7, 500);
        C.yes("to the edge", f.buy(7, 1));
        C.due("copper is full", f.about(2), FULL);
        C.no("one above", f.buy(1, 1));
        C.yes("no copper more", f.buy(0, 1));
        C.due("tin came without it", f.about(3), FULL - 498);
        Twins.refuses(C, "8 where 7 go", () -> stored(7, 500), x -> x.buy(8, 0));
        Twins.refuses(C, "8 where 7 go, with tin", () -> stored(7, 500), x -> x.buy(8, 9));
        Twins.refuses(C, "most where 7 go", () -> stored(7, 500), x -> x.buy(1000000, 0));
    }

    private static void tinWouldBeAbove() {
        C.sentence("or if one would be above 100000000");
        BellFoundry f = stored(500, 7);
        C.yes("to the edge", f.buy(1, 7));
        C.due("tin is full", f.about(3), FULL);
        C.no("one above", f.buy(1, 1));
        C.yes("no tin more", f.buy(1, 0));
        C.due("copper came without it", f.about(2), FULL - 498);
        Twins.refuses(C, "8 where 7 go", () -> stored(500, 7), x -> x.buy(0, 8));
        Twins.refuses(C, "8 where 7 go, with copper", () -> stored(500, 7), x -> x.buy(9, 8));
        Twins.refuses(C, "most where 7 go", () -> stored(500, 7), x -> x.buy(0, 1000000));
        f = stored(0, 0);
        C.yes("none of both, both full", f.buy(0, 0));
        C.no("both above", f.buy(1, 1));
        C.due("copper", f.about(2), FULL);
        C.due("tin", f.about(3), FULL);
    }

    private static void roomAgainBehindACasting() {
        C.sentence("or if one would be above 100000000");
        BellFoundry f = stored(0, 0);
        f.profile(100);
        f.cast(0);
        C.no("copper 78", f.buy(78, 0));
        C.no("tin 24", f.buy(0, 24));
        C.yes("77 and 23", f.buy(77, 23));
        C.no("copper 1", f.buy(1, 0));
    }

    private static void theHeapIsApart() {
        C.sentence("or if one would be above 100000000");
        BellFoundry f = stored(0, 0);
        f.profile(5000);
        f.cast(0);
        f.buy(3850, 1150);
        f.crack(0);
        C.due("heap", f.about(4), 5000);
        C.due("copper stays full", f.about(2), FULL);
        C.due("tin stays full", f.about(3), FULL);
    }
}
