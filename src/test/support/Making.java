/** Foundries that several tests begin with. */
final class Making {
    private Making() {
    }

    static BellFoundry rich() {
        BellFoundry f = new BellFoundry();
        f.buy(1000000, 1000000);
        return f;
    }

    /** A profile whose bells have this part 0 and this weight, with nothing to cut. */
    static int plain(BellFoundry f, int weight, int tone) {
        int p = f.profile(weight);
        f.base(p, 0, tone);
        return p;
    }

    /** Casts a bell with this part 0 and weight, by a profile that leaves the others as they are. */
    static int bell(BellFoundry f, int profile, int tone, int extra) {
        f.base(profile, 0, tone);
        f.shape(profile, 7, 7, extra);
        return f.cast(profile);
    }

    /** Thickness, least and the numbers of the five tables at one height. */
    static void height(BellFoundry f, int profile, int h, int thick, int least, int... tables) {
        f.shape(profile, 7, h, thick);
        f.shape(profile, 6, h, least);
        for (int p = 0; p < tables.length; p++) {
            f.shape(profile, p, h, tables[p]);
        }
    }

    /** All that can be asked without changing anything, as one text. */
    static String all(BellFoundry f) {
        StringBuilder told = new StringBuilder();
        for (int what = 0; what <= 14; what++) {
            told.append(f.about(what)).append(' ');
        }
        for (int b = 0; b < 24; b++) {
            told.append('/');
            for (int what = 0; what <= 18; what++) {
                told.append(f.bellOf(b, what)).append(' ');
            }
            told.append(f.tuning(b));
            for (int h = 0; h < 8; h++) {
                told.append(' ').append(f.tuningAt(b, h));
            }
        }
        told.append('/').append(f.ringWeight());
        for (int i = 0; i < 8; i++) {
            told.append(' ').append(f.ringBell(i));
        }
        return told.toString();
    }
}
