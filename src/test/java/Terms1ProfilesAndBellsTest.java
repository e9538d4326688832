/** Terms, part I: profiles, bells, cuts and casting. What numbers each call takes is in the tests of promises 2 to 7. */
public final class Terms1ProfilesAndBellsTest {
    private static final Check C = new Check("terms I");

    public static void main(String[] args) {
        asItWasWhenItWasCast();
        partIsBaseAndTablesTimesThickness();
        itsMetalComesToTheHeap();
        copperAndTinOfTheRest();
        heapAsFarAsItGoes();
        heapGrowsByTrimmings();
        C.end();
    }

    private static void asItWasWhenItWasCast() {
        C.sentence("each by a PROFILE (as it was when it was cast)");
        BellFoundry f = Making.rich();
        f.profile(50);
        Making.height(f, 0, 2, 10, 5, 3, -4);
        f.shape(0, 5, 2, 7);
        f.base(0, 0, 100);
        f.cast(0);
        f.shape(0, 7, 2, 99);
        f.shape(0, 6, 2, 9);
        f.shape(0, 5, 2, 50);
        f.shape(0, 0, 2, -50);
        f.base(0, 0, -9);
        f.shape(0, 7, 3, 9);
        C.due("weight as it was", f.bellOf(0, 5), 50 + 70);
        C.due("base and table as they were", f.bellOf(0, 0), 130);
        C.due("another part's table", f.bellOf(0, 1), -40);
        C.due("no new thickness", f.bellOf(0, 13), 0);
        for (int left = 9; left >= 5; left--) {
            C.due("cut to the least as it was", f.cut(0, 2), left);
        }
        C.due("not below it", f.cut(0, 2), -1);
        C.due("metal as it was", f.about(4), 35);
        C.due("the next is by the new", f.cast(0), 1);
        C.due("its thickness", f.bellOf(1, 12), 99);
        C.due("its weight", f.bellOf(1, 5), 50 + 50 * 99 + 9);
        C.due("its part", f.bellOf(1, 0), -9 - 50 * 99);
        C.due("the first as before", f.bellOf(0, 0), 115);
    }

    private static void partIsBaseAndTablesTimesThickness() {
        C.sentence("PART p: BASE and, over the heights, TABLE times thickness, together.");
        for (int sign = -1; sign <= 1; sign += 2) {
            for (int part = 0; part < 5; part++) {
                BellFoundry f = Making.rich();
                f.profile(0);
                f.base(0, part, sign * 20000);
                for (int h = 0; h < 8; h++) {
                    f.shape(0, 7, h, 99);
                    f.shape(0, part, h, sign * 50);
                }
                f.cast(0);
                for (int p = 0; p < 5; p++) {
                    C.due("part " + p, f.bellOf(0, p), p == part ? sign * 59600 : 0);
                }
            }
        }
    }

    private static void itsMetalComesToTheHeap() {
        C.sentence("A CUT at a height: one unit of thickness less, not below LEAST; its METAL comes to the HEAP.");
        int[] metals = {1, 50, 2, 49, 7, 8, 9, 10};
        BellFoundry f = Making.rich();
        f.profile(0);
        for (int h = 0; h < 8; h++) {
            Making.height(f, 0, h, 2, 1);
            f.shape(0, 5, h, metals[h]);
        }
        f.cast(0);
        int heap = 0;
        for (int h = 0; h < 8; h++) {
            f.cut(0, h);
            heap += metals[h];
            C.due("heap behind a cut at " + h, f.about(4), heap);
            f.cut(0, h);
            C.due("heap behind one that couldn't be", f.about(4), heap);
        }
        C.due("copper stays", f.about(2) + f.about(3), 2000000 - 2 * heap);
    }

    private static void copperAndTinOfTheRest() {
        C.sentence("of the rest m copper (77 m + 99) / 100, cut, and as much tin as then lacks");
        int[][] weightCopperTin = {{0, 0, 0}, {1, 1, 0}, {2, 2, 0}, {3, 3, 0}, {4, 4, 0}, {5, 4, 1}, {8, 7, 1}, {9, 7, 2}, {13, 11, 2},
            {99, 77, 22}, {100, 77, 23}, {101, 78, 23}, {154, 119, 35}, {200, 154, 46}, {5000, 3850, 1150}};
        for (int[] w : weightCopperTin) {
            BellFoundry f = Making.rich();
            f.profile(w[0]);
            C.due("cast of " + w[0], f.cast(0), 0);
            C.due("copper for " + w[0], 1000000 - f.about(2), w[1]);
            C.due("tin for " + w[0], 1000000 - f.about(3), w[2]);
            C.due("the heap", f.about(4), 0);
            C.due("metal of bells", f.about(5), w[0]);
        }
    }

    /** What is left of copper, tin and the heap behind a casting of 100 with so much in the heap. */
    private static void heapAsFarAsItGoes() {
        C.sentence("CASTING takes the bell's weight from the HEAP, as far as it goes");
        int[][] heapCopperTinLeft = {{0, 77, 23, 0}, {1, 77, 22, 0}, {60, 31, 9, 0}, {99, 1, 0, 0}, {100, 0, 0, 0},
            {101, 0, 0, 1}, {5000, 0, 0, 4900}};
        for (int[] w : heapCopperTinLeft) {
            BellFoundry f = Making.withBells(w[0], 100);
            f.crack(0);
            int copper = f.about(2);
            int tin = f.about(3);
            C.due("cast", f.cast(1), 2);
            C.due("copper behind a heap of " + w[0], copper - f.about(2), w[1]);
            C.due("tin behind a heap of " + w[0], tin - f.about(3), w[2]);
            C.due("heap left of " + w[0], f.about(4), w[3]);
        }
        BellFoundry f = new BellFoundry();
        f.profile(30);
        f.buy(24, 6);
        f.cast(0);
        f.crack(0);
        C.due("from the heap alone", f.cast(0), 1);
        C.due("heap", f.about(4), 0);
        C.due("nothing is left", f.cast(0), -1);
    }

    private static void heapGrowsByTrimmings() {
        C.sentence("CASTING takes the bell's weight from the HEAP, as far as it goes");
        BellFoundry f = Making.withTables(5, 1);
        f.span(0, 2, 2);
        f.tune(0);
        f.cut(0, 0);
        C.due("heap", f.about(4), 4);
        int copper = f.about(2);
        f.cast(0);
        C.due("heap", f.about(4), 0);
        C.due("copper for 11", copper - f.about(2), 9);
    }
}
