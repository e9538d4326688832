/** Foundries that several tests begin with. */
final class Making {
    private Making() {
    }

    static BellFoundry rich() {
        BellFoundry f = new BellFoundry();
        f.buy(1000000, 1000000);
        return f;
    }

    /** A bell for each weight, each by a profile of its own with nothing to cut. */
    static BellFoundry withBells(int... weights) {
        BellFoundry f = rich();
        for (int p = 0; p < weights.length; p++) {
            f.profile(weights[p]);
            f.cast(p);
        }
        return f;
    }

    /** A bell of 10 and so much thickness at each height that has a table number of part 0. */
    static BellFoundry withTables(int thick, int... tables) {
        BellFoundry f = rich();
        f.profile(10);
        for (int h = 0; h < tables.length; h++) {
            height(f, 0, h, thick, 0, tables[h]);
        }
        f.cast(0);
        return f;
    }

    /** Bells told in pairs: part 0, and what each weighs above 100. */
    static BellFoundry withTones(int... tonesAndExtras) {
        BellFoundry f = rich();
        f.profile(100);
        for (int i = 0; i + 1 < tonesAndExtras.length; i += 2) {
            bell(f, 0, tonesAndExtras[i], tonesAndExtras[i + 1]);
        }
        return f;
    }

    /** Casts a bell with this part 0 and weight, by a profile that leaves the others as they are. */
    static int bell(BellFoundry f, int profile, int tone, int extra) {
        f.base(profile, 0, tone);
        f.shape(profile, 7, 7, extra);
        return f.cast(profile);
    }

    /** Thickness, least and the numbers of the tables at one height. */
    static void height(BellFoundry f, int profile, int h, int thick, int least, int... tables) {
        f.shape(profile, 7, h, thick);
        f.shape(profile, 6, h, least);
        for (int p = 0; p < tables.length; p++) {
            f.shape(profile, p, h, tables[p]);
        }
    }

    static void sing(BellFoundry f, int awry, int... steps) {
        f.ring(awry);
        for (int step : steps) {
            f.note(step);
        }
    }

    /**
     * Something of everything: 2 profiles; bells 0 and 3 sound and hung, 1 old, 2 cracked; spans that two cuts
     * reach; a ring of bells 0 and 3; 7 more that the tower would bear.
     */
    static BellFoundry busy() {
        BellFoundry f = new BellFoundry();
        f.buy(5000, 4000);
        f.profile(100);
        height(f, 0, 0, 5, 3, 2, -1, 4, 0, 1);
        height(f, 0, 1, 4, 2, 3, 1);
        height(f, 0, 7, 3, 1, 5, 0, -6, 2);
        f.shape(0, 5, 1, 7);
        f.base(0, 0, 1000);
        f.base(0, 4, -30);
        f.profile(40);
        height(f, 1, 0, 3, 1, 7, 0, 0, 1);
        f.base(1, 0, 1009);
        f.cast(0);
        f.cast(0);
        f.cast(1);
        f.cast(1);
        f.old(1);
        f.crack(2);
        f.cut(0, 1);
        f.span(0, 1000, 1026);
        f.span(1, -9, 9);
        f.span(2, 0, 9);
        sing(f, 3, 0, -4);
        f.tower(0, 50, 10000);
        f.tower(1, 120, 10000);
        f.hang(0, 0);
        f.hang(3, 1);
        f.tower(-1, 0, f.about(8) + 7);
        return f;
    }

    static BellFoundry fourProfiles() {
        BellFoundry f = busy();
        f.profile(5);
        f.profile(6);
        return f;
    }

    static BellFoundry fullOfBells() {
        BellFoundry f = busy();
        for (int b = 4; b < 24; b++) {
            f.cast(1);
        }
        return f;
    }

    /** Eight notes that just one choice of the eight bells agrees with. */
    static BellFoundry fullOfNotes() {
        BellFoundry f = withTones(0, 0, 10, 1, 20, 2, 30, 3, 40, 4, 50, 5, 60, 6, 70, 7);
        sing(f, 3, 0, 10, 20, 30, 40, 50, 60, 70);
        return f;
    }
}
