import java.util.function.Supplier;

/** That a call changes nothing: seen against a twin with the same past on which it was never made. */
final class Twins {
    interface Call {
        int on(BellFoundry f);
    }

    interface Yes {
        boolean on(BellFoundry f);
    }

    static final int[] FAR = {Integer.MIN_VALUE, Integer.MIN_VALUE + 1, -100000001, 100000001, Integer.MAX_VALUE};

    private Twins() {
    }

    /** Beside the last values that are taken, and far from them. */
    static int[] others(int... near) {
        int[] all = new int[near.length + FAR.length];
        System.arraycopy(near, 0, all, 0, near.length);
        System.arraycopy(FAR, 0, all, near.length, FAR.length);
        return all;
    }

    static void refuses(Check c, String what, Supplier<BellFoundry> past, Yes call) {
        leaves(c, what, past, 0, f -> call.on(f) ? 1 : 0);
    }

    static void none(Check c, String what, Supplier<BellFoundry> past, Call call) {
        leaves(c, what, past, -1, call);
    }

    /** The call is answered so, and all that can be asked or done later is as on the twin. */
    static void leaves(Check c, String what, Supplier<BellFoundry> past, int answer, Call call) {
        BellFoundry asked = past.get();
        BellFoundry twin = past.get();
        c.due(what, call.on(asked), answer);
        c.same(what + ": what later calls", later(asked), later(twin));
    }

    /** All that can be asked, then what calls that change something tell; some 350 calls at the most. */
    static String later(BellFoundry f) {
        StringBuilder told = new StringBuilder(now(f));
        told.append("| note ").append(f.note(3)).append(' ').append(f.ringWeight());
        told.append("| profile ").append(f.profile(1)).append(" buy ").append(f.buy(30000, 20000));
        for (int p = 0; p < 4; p++) {
            told.append("| by ").append(p);
            castAndCut(f, p, told);
        }
        told.append("| tower ").append(f.tower(2, 100, f.about(9))).append(f.tower(-1, 0, f.about(8)));
        return told.toString();
    }

    static String now(BellFoundry f) {
        StringBuilder told = new StringBuilder("about");
        for (int what = 0; what <= 14; what++) {
            told.append(' ').append(f.about(what));
        }
        int bells = f.about(1);
        for (int b = 0; b < bells; b++) {
            told.append("| bell ").append(b);
            // 24 bells told whole would be more than the 512 calls of an object
            if (bells <= 6) {
                wholeBell(f, b, told);
            } else {
                told.append(' ').append(f.bellOf(b, 5)).append(' ').append(f.bellOf(b, 8));
            }
        }
        told.append("| ring ").append(f.ringWeight());
        for (int i = 0; i < 8; i++) {
            told.append(' ').append(f.ringBell(i));
        }
        return told.toString();
    }

    private static void wholeBell(BellFoundry f, int b, StringBuilder told) {
        for (int what = 0; what <= 18; what++) {
            told.append(' ').append(f.bellOf(b, what));
        }
        told.append(" tuning ").append(f.tuning(b));
        for (int h = 0; h < 8; h++) {
            told.append(' ').append(f.tuningAt(b, h));
        }
    }

    /** A bell shows what stands in its profile, each cut what stands there at its height. */
    private static void castAndCut(BellFoundry f, int profile, StringBuilder told) {
        int b = f.cast(profile);
        told.append(" cast ").append(b);
        if (b < 0) {
            return;
        }
        for (int what = 0; what <= 5; what++) {
            told.append(' ').append(f.bellOf(b, what));
        }
        for (int h = 0; h < 8; h++) {
            int left = f.cut(b, h);
            told.append(" cut ").append(left);
            for (int more = 0; more < 3 && left >= 0; more++) {
                left = f.cut(b, h);
                told.append(' ').append(left);
            }
        }
        for (int what = 0; what <= 5; what++) {
            told.append(' ').append(f.bellOf(b, what));
        }
        for (int way = 0; way < 5; way++) {
            told.append(' ').append(f.hang(b, way));
        }
        told.append(' ').append(f.tune(b)).append(' ').append(f.about(4));
    }
}
