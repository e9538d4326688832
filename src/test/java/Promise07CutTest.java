/** Promise 7: cut. */
public final class Promise07CutTest {
    private static final Check C = new Check("promise 7");

    public static void main(String[] args) {
        itsThicknessThere();
        notBelowLeast();
        noSuchBellOrHeight();
        oldOrCracked();
        C.end();
    }

    private static void itsThicknessThere() {
        C.sentence("A bell is CUT at a height: its thickness there.");
        BellFoundry f = Making.rich();
        f.profile(50);
        for (int h = 0; h < 8; h++) {
            Making.height(f, 0, h, 20 + h, 0, h - 3, 1, -50, 50, 0);
            f.shape(0, 5, h, 10 + h);
        }
        f.cast(0);
        f.cast(0);
        int weight = f.bellOf(0, 5);
        int[] parts = new int[5];
        for (int p = 0; p < 5; p++) {
            parts[p] = f.bellOf(0, p);
        }
        for (int h = 0; h < 8; h++) {
            C.due("cut at " + h, f.cut(0, h), 19 + h);
            weight -= 10 + h;
            int[] tables = {h - 3, 1, -50, 50, 0};
            for (int p = 0; p < 5; p++) {
                parts[p] -= tables[p];
                C.due("part " + p + " behind a cut at " + h, f.bellOf(0, p), parts[p]);
            }
            C.due("weight behind a cut at " + h, f.bellOf(0, 5), weight);
            C.due("told", f.bellOf(0, 10 + h), 19 + h);
            C.due("the other bell's", f.bellOf(1, 10 + h), 20 + h);
            C.due("heap and bells together", f.about(4) + f.about(5), 2 * f.bellOf(1, 5));
        }
    }

    private static void notBelowLeast() {
        C.sentence("NONE: it can't be.");
        int[][] thickAndLeast = {{0, 0}, {1, 0}, {1, 1}, {3, 2}, {99, 99}, {99, 97}};
        for (int[] t : thickAndLeast) {
            for (int h = 0; h < 8; h++) {
                BellFoundry f = Making.rich();
                f.profile(1);
                Making.height(f, 0, h, t[0], t[1]);
                f.cast(0);
                for (int left = t[0] - 1; left >= t[1]; left--) {
                    C.due("cut", f.cut(0, h), left);
                }
                C.due("below " + t[1], f.cut(0, h), -1);
                C.due("again", f.cut(0, h), -1);
                C.due("thickness stays", f.bellOf(0, 10 + h), t[1]);
                C.due("heap stays", f.about(4), t[0] - t[1]);
            }
        }
        Twins.none(C, "at its least", Promise07CutTest::atItsLeast, f -> f.cut(0, 0));
        Twins.none(C, "where there is none", Making::busy, f -> f.cut(0, 4));
    }

    private static BellFoundry atItsLeast() {
        BellFoundry f = Making.busy();
        f.cut(0, 0);
        f.cut(0, 0);
        return f;
    }

    private static void noSuchBellOrHeight() {
        C.sentence("NONE: it can't be.");
        for (int bell : Twins.others(-2, -1, 4, 5, 23, 24)) {
            Twins.none(C, "bell " + bell, Making::busy, f -> f.cut(bell, 0));
        }
        for (int h : Twins.others(-2, -1, 8, 9)) {
            Twins.none(C, "height " + h, Making::busy, f -> f.cut(0, h));
            Twins.none(C, "height " + h + " of bell 3", Making::busy, f -> f.cut(3, h));
        }
        BellFoundry full = Making.fullOfBells();
        C.due("bell 23", full.cut(23, 0), 2);
        C.due("bell 24", full.cut(24, 0), -1);
    }

    private static void oldOrCracked() {
        C.sentence("An OLD bell isn't cut. A CRACKED one isn't cut");
        for (int h = 0; h < 8; h++) {
            int at = h;
            Twins.none(C, "old, at " + h, Making::busy, f -> f.cut(1, at));
            Twins.none(C, "cracked, at " + h, Making::busy, f -> f.cut(2, at));
        }
    }
}
