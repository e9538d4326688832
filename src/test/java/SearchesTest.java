/** Tunings and rings that have an answer, and that nearly have one, each as Plain finds it by going through all. */
public final class SearchesTest {
    private static final Check CHECK = new Check("searches");
    private static long seed = 20261116;

    public static void main(String[] args) {
        for (int i = 0; i < 1500; i++) {
            tuningCase(i);
        }
        for (int i = 0; i < 1200; i++) {
            ringCase(i);
        }
        CHECK.end();
    }

    private static int upTo(int most) {
        seed = seed * 6364136223846793005L + 1442695040888963407L;
        return (int) ((seed >>> 33) % (most + 1L));
    }

    private static void shape(BellFoundry got, Plain due, int what, int h, int v) {
        CHECK.due("shape", got.shape(0, what, h, v) ? 1 : 0, due.shape(0, what, h, v));
    }

    private static void tuningCase(int i) {
        BellFoundry got = Making.rich();
        Plain due = new Plain();
        due.buy(1000000, 1000000);
        got.profile(9);
        due.profile(9);
        int tallest = i % 3 == 0 ? 3 : 13;
        int steepest = i % 4 == 0 ? 3 : i % 4 == 1 ? 50 : 12;
        for (int h = 0; h < 8; h++) {
            int thick = 30 + upTo(20);
            shape(got, due, 7, h, thick);
            shape(got, due, 6, h, thick - upTo(tallest));
            shape(got, due, 5, h, 1 + upTo(49));
            for (int p = 0; p < 5; p++) {
                shape(got, due, p, h, upTo(5) == 0 ? 0 : upTo(2 * steepest) - steepest);
            }
        }
        got.cast(0);
        due.cast(0);
        spans(got, due, i);
        told("tuning case " + i, got, due);
        CHECK.due("tune " + i, got.tune(0), due.tune(0));
        CHECK.due("heap " + i, got.about(4), due.about(4));
        for (int what = 0; what <= 17; what++) {
            CHECK.due("bellOf " + what, got.bellOf(0, what), due.bellOf(0, what));
        }
    }

    private static void told(String what, BellFoundry got, Plain due) {
        CHECK.due(what, got.tuning(0), due.tuning(0));
        for (int h = 0; h < 8; h++) {
            CHECK.due(what + " at " + h, got.tuningAt(0, h), due.tuningAt(0, h));
        }
    }

    /** Around what some cuts make of the bell; in some cases just beside it. */
    private static void spans(BellFoundry got, Plain due, int i) {
        int[] aim = due.bells.get(0).thick.clone();
        int cuts = upTo(14);
        for (int n = 0; n < cuts; n++) {
            int h = upTo(7);
            if (aim[h] > due.bells.get(0).mould.at[6][h]) {
                aim[h]--;
            }
        }
        int narrow = 1 + upTo(4);
        for (int p = 0; p < 5; p++) {
            int at = Plain.part(due.bells.get(0).mould, aim, p) + (i % 7 == 0 ? upTo(2) - 1 : 0);
            int below = p < narrow ? upTo(3) : upTo(300);
            int above = p < narrow ? upTo(3) : upTo(300);
            CHECK.due("span", got.span(p, at - below, at + above) ? 1 : 0, due.span(p, at - below, at + above));
        }
    }

    private static void ringCase(int i) {
        BellFoundry got = Making.rich();
        Plain due = new Plain();
        due.buy(1000000, 1000000);
        got.profile(9);
        due.profile(9);
        int notes = 1 + i % 8;
        int bells = notes <= 3 ? 24 : notes <= 5 ? 12 : notes + upTo(2);
        int tones = 1 + upTo(notes + 2);
        int weights = upTo(2) == 0 ? 2 : 90;
        for (int b = 0; b < bells; b++) {
            int tone = 10 * upTo(tones) + upTo(3);
            got.base(0, 0, tone);
            due.base(0, 0, tone);
            shape(got, due, 7, 5, upTo(weights));
            CHECK.due("cast", got.cast(0), due.cast(0));
        }
        if (upTo(3) == 0) {
            int cracked = upTo(bells - 1);
            CHECK.due("crack", got.crack(cracked) ? 1 : 0, due.crack(cracked));
        }
        int awry = upTo(3) == 0 ? upTo(40) : upTo(15);
        CHECK.due("ring", got.ring(awry) ? 1 : 0, due.ring(awry));
        for (int n = 0; n < notes; n++) {
            int step = 10 * (upTo(2 * tones) - tones) / (n % 2 + 1);
            CHECK.due("note", got.note(step), due.note(step));
            CHECK.due("ring case " + i, got.ringWeight(), due.ringWeight());
        }
        for (int n = -1; n <= notes; n++) {
            CHECK.due("ring case " + i + ", note " + n, got.ringBell(n), due.ringBell(n));
        }
    }
}
