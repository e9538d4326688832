/** Runs of just 512 calls with all kinds of arguments, the same runs each time, each call answered as Plain answers it. */
public final class RandomRunsTest {
    private static final int RUNS = 400;
    private static final int CALLS = 512;
    private static final int[] FAR = {Integer.MIN_VALUE, Integer.MIN_VALUE + 1, -100000, -2, -1, 100000,
        Integer.MAX_VALUE - 1, Integer.MAX_VALUE};

    private final Check check;
    private final BellFoundry got = new BellFoundry();
    private final Plain due = new Plain();
    private final int run;
    private long seed;
    private final int mostBells;
    private final int mostNotes;
    private final int farOneIn;
    private int calls;

    private RandomRunsTest(Check check, int run) {
        this.check = check;
        this.run = run;
        seed = run * 7919L + 17;
        // Plain goes through every choice: many bells or many notes, not both
        mostBells = run % 3 == 0 ? 24 : run % 3 == 1 ? 7 : 10;
        mostNotes = run % 3 == 0 ? 4 : run % 3 == 1 ? 8 : 6;
        farOneIn = run % 5 == 0 ? 10 : 60;
    }

    public static void main(String[] args) {
        Check check = new Check("random runs");
        for (int run = 0; run < RUNS && check.wrongSoFar() < 20; run++) {
            new RandomRunsTest(check, run).go();
        }
        check.end();
    }

    private int upTo(int most) {
        seed = seed * 6364136223846793005L + 1442695040888963407L;
        return (int) ((seed >>> 33) % (most + 1L));
    }

    /** Mostly within the two, sometimes just outside, now and then far. */
    private int pick(int from, int to) {
        if (upTo(farOneIn) == 0) {
            int[] near = {from - 1, to + 1, from, to, FAR[upTo(FAR.length - 1)]};
            return near[upTo(near.length - 1)];
        }
        return from + upTo(to - from);
    }

    private int bell() {
        return pick(0, Math.max(0, due.bells.size() - 1));
    }

    private void same(String told, long answer, long want) {
        calls++;
        check.due("run " + run + ", call " + calls + ": " + told, answer, want);
    }

    private void same(String told, boolean answer, long want) {
        same(told, answer ? 1 : 0, want);
    }

    /** A step makes one call at the most, so that the run ends with just the last call that is promised. */
    private void go() {
        int wrong = check.wrongSoFar();
        int asked = run % 4 == 0 ? 0 : 120;
        for (int i = 0; i < 20 * CALLS && calls < CALLS - asked && check.wrongSoFar() == wrong; i++) {
            int kind = i < 120 ? 0 : 35 + upTo(95);
            if (kind < 40) {
                make(i < 100);
            } else if (kind < 70) {
                work();
            } else if (kind < 100) {
                ringing();
            } else {
                askAny();
            }
        }
        while (calls < CALLS) {
            askAny();
        }
    }

    /** Bells come behind most of the shaping, so that there is something to cut. */
    private void make(boolean shaping) {
        int p = pick(0, Math.max(0, due.moulds.size() - 1));
        switch (upTo(shaping ? 19 : 7)) {
            case 0: {
                int w = pick(0, upTo(3) == 0 ? 5000 : 20);
                same("profile " + w, got.profile(w), due.profile(w));
                break;
            }
            case 1: {
                int part = pick(0, 4);
                int v = upTo(5) == 0 ? pick(-20000, 20000) : pick(-50, 50);
                same("base", got.base(p, part, v), due.base(p, part, v));
                break;
            }
            case 2: {
                int c = pick(0, upTo(2) == 0 ? 1000000 : 3000);
                int t = pick(0, upTo(2) == 0 ? 1000000 : 900);
                same("buy", got.buy(c, t), due.buy(c, t));
                break;
            }
            case 3:
                if (due.bells.size() < mostBells && (!shaping || upTo(3) == 0)) {
                    same("cast " + p, got.cast(p), due.cast(p));
                }
                break;
            default: {
                int what = upTo(2) == 0 ? 7 : pick(0, 7);
                int h = pick(0, 7);
                int steep = run % 2 == 0 ? 50 : 6;
                int v = what < 5 ? pick(-steep, steep) : what == 5 ? pick(1, 50) : what == 6 ? pick(0, 20) : pick(0, 99);
                same("shape", got.shape(p, what, h, v), due.shape(p, what, h, v));
            }
        }
    }

    private void work() {
        int b = bell();
        int h = pick(0, 7);
        switch (upTo(9)) {
            case 0:
                same("tune " + b, got.tune(b), due.tune(b));
                break;
            case 1:
                same("tuning " + b, got.tuning(b), due.tuning(b));
                break;
            case 2:
                same("tuningAt " + b, got.tuningAt(b, h), due.tuningAt(b, h));
                break;
            case 3:
                if (upTo(12) == 0) {
                    same("old " + b, got.old(b), due.old(b));
                }
                break;
            case 4:
                if (upTo(9) == 0) {
                    same("crack " + b, got.crack(b), due.crack(b));
                }
                break;
            case 5:
            case 6:
                spanNear(b);
                break;
            default:
                same("cut " + b + " at " + h, got.cut(b, h), due.cut(b, h));
        }
    }

    /** A span that some cuts of this bell reach, narrow or wide. */
    private void spanNear(int b) {
        int part = pick(0, 4);
        int at = (int) due.bellOf(b, Math.floorMod(part, 5)) + pick(-150, 150);
        int wide = upTo(4) == 0 ? upTo(5) : upTo(1) == 0 ? 30 + upTo(150) : 60000;
        int from = upTo(20) == 0 ? pick(-30000, 30000) : Math.max(-30000, at - wide);
        int to = upTo(20) == 0 ? pick(-30000, 30000) : Math.min(30000, at + wide);
        same("span " + part + " " + from + " " + to, got.span(part, from, to), due.span(part, from, to));
    }

    private void ringing() {
        switch (upTo(7)) {
            case 0: {
                int awry = pick(0, upTo(1) == 0 ? 200 : 3);
                if (due.steps.size() >= mostNotes || upTo(2) == 0) {
                    same("ring", got.ring(awry), due.ring(awry));
                }
                break;
            }
            case 1:
            case 2:
                noteNear();
                break;
            case 3: {
                int way = pick(-1, 4);
                int share = pick(0, 300);
                int most = pick(0, upTo(1) == 0 ? 1000000 : (int) due.about(8) + 200);
                same("tower", got.tower(way, share, most), due.tower(way, share, most));
                break;
            }
            case 4:
            case 5: {
                int b = bell();
                int way = pick(-1, 4);
                same("hang " + b + " by " + way, got.hang(b, way), due.hang(b, way));
                break;
            }
            default:
                askRing();
        }
    }

    private void noteNear() {
        if (due.steps.size() >= mostNotes) {
            return;
        }
        long apart = due.bellOf(bell(), 0) - due.bellOf(bell(), 0);
        int step = upTo(4) == 0 || Math.abs(apart) > 5000 ? pick(-5000, 5000) : (int) apart;
        same("note " + step, got.note(step), due.note(step));
    }

    private void askRing() {
        if (upTo(1) == 0) {
            same("ringWeight", got.ringWeight(), due.ringWeight());
        } else {
            int i = pick(0, 7);
            same("ringBell " + i, got.ringBell(i), due.ringBell(i));
        }
    }

    private void askAny() {
        int kind = upTo(9);
        if (kind == 0) {
            askRing();
        } else if (kind <= 3) {
            int what = pick(0, 14);
            same("about " + what, got.about(what), due.about(what));
        } else {
            int b = bell();
            int what = pick(0, 18);
            same("bellOf " + b + " " + what, got.bellOf(b, what), due.bellOf(b, what));
        }
    }
}
