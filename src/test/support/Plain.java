import java.util.ArrayList;
import java.util.List;

/** The document once more, as plainly as it can be said: it counts everything anew and goes through every choice. */
final class Plain {
    static final class Mould {
        int weight;
        int[] base = new int[5];
        int[][] at = new int[8][8];
    }

    static final class Cast {
        int number;
        int profile;
        Mould mould;
        int[] thick = new int[8];
        boolean old;
        boolean cracked;
        int way = -1;
    }

    final List<Mould> moulds = new ArrayList<>();
    final List<Cast> bells = new ArrayList<>();
    final List<Integer> steps = new ArrayList<>();
    final int[][] spans = new int[5][];
    final int[] shares = new int[5];
    long copper;
    long tin;
    long heap;
    int awry;
    int bears;

    Plain() {
        for (int p = 0; p < 5; p++) {
            spans[p] = new int[] {-30000, 30000};
        }
    }

    private static Mould copy(Mould m) {
        Mould c = new Mould();
        c.weight = m.weight;
        c.base = m.base.clone();
        for (int what = 0; what < 8; what++) {
            c.at[what] = m.at[what].clone();
        }
        return c;
    }

    private Cast bellAt(int bell) {
        for (Cast c : bells) {
            if (c.number == bell) {
                return c;
            }
        }
        return null;
    }

    private static boolean in(long v, long from, long to) {
        return from <= v && v <= to;
    }

    static int weight(Mould m, int[] thick) {
        int w = m.weight;
        for (int h = 0; h < 8; h++) {
            w += m.at[5][h] * thick[h];
        }
        return w;
    }

    static int part(Mould m, int[] thick, int part) {
        int v = m.base[part];
        for (int h = 0; h < 8; h++) {
            v += m.at[part][h] * thick[h];
        }
        return v;
    }

    long profile(int weight) {
        if (!in(weight, 0, 5000) || moulds.size() == 4) {
            return -1;
        }
        Mould m = new Mould();
        m.weight = weight;
        for (int h = 0; h < 8; h++) {
            m.at[5][h] = 1;
        }
        moulds.add(m);
        return moulds.size() - 1;
    }

    long shape(int profile, int what, int h, int v) {
        if (!in(profile, 0, moulds.size() - 1) || !in(what, 0, 7) || !in(h, 0, 7)) {
            return 0;
        }
        int[] from = {-50, -50, -50, -50, -50, 1, 0, 0};
        int[] to = {50, 50, 50, 50, 50, 50, 99, 99};
        if (!in(v, from[what], to[what])) {
            return 0;
        }
        Mould m = moulds.get(profile);
        int before = m.at[what][h];
        m.at[what][h] = v;
        if (m.at[6][h] > m.at[7][h]) {
            m.at[what][h] = before;
            return 0;
        }
        return 1;
    }

    long base(int profile, int part, int v) {
        if (!in(profile, 0, moulds.size() - 1) || !in(part, 0, 4) || !in(v, -20000, 20000)) {
            return 0;
        }
        moulds.get(profile).base[part] = v;
        return 1;
    }

    long buy(int c, int t) {
        if (!in(c, 0, 1000000) || !in(t, 0, 1000000) || copper + c > 100000000 || tin + t > 100000000) {
            return 0;
        }
        copper += c;
        tin += t;
        return 1;
    }

    long cast(int profile) {
        if (!in(profile, 0, moulds.size() - 1) || bells.size() == 24) {
            return -1;
        }
        Cast c = new Cast();
        c.number = bells.size();
        c.profile = profile;
        c.mould = copy(moulds.get(profile));
        c.thick = c.mould.at[7].clone();
        long lacks = weight(c.mould, c.thick);
        long fromHeap = Math.min(heap, lacks);
        lacks -= fromHeap;
        long needCopper = (77 * lacks + 99) / 100;
        long needTin = lacks - needCopper;
        if (copper < needCopper || tin < needTin) {
            return -1;
        }
        heap -= fromHeap;
        copper -= needCopper;
        tin -= needTin;
        bells.add(c);
        return c.number;
    }

    long cut(int bell, int h) {
        Cast c = bellAt(bell);
        if (c == null || c.old || c.cracked || !in(h, 0, 7) || c.thick[h] - 1 < c.mould.at[6][h]) {
            return -1;
        }
        c.thick[h]--;
        heap += c.mould.at[5][h];
        return c.thick[h];
    }

    long old(int bell) {
        Cast c = bellAt(bell);
        if (c == null) {
            return 0;
        }
        c.old = true;
        return 1;
    }

    long crack(int bell) {
        Cast c = bellAt(bell);
        if (c == null || c.cracked) {
            return 0;
        }
        c.cracked = true;
        c.way = -1;
        heap += weight(c.mould, c.thick);
        return 1;
    }

    private long pull(Cast c) {
        return c.way < 0 ? 0 : (long) weight(c.mould, c.thick) * shares[c.way] / 100;
    }

    long bellOf(int bell, int what) {
        Cast c = bellAt(bell);
        if (c == null || !in(what, 0, 18)) {
            return -100000;
        }
        if (what < 5) {
            return part(c.mould, c.thick, what);
        }
        if (what >= 10 && what <= 17) {
            return c.thick[what - 10];
        }
        return switch (what) {
            case 5 -> weight(c.mould, c.thick);
            case 6 -> c.old ? 1 : 0;
            case 7 -> c.cracked ? 1 : 0;
            case 8 -> c.way;
            case 9 -> pull(c);
            default -> c.profile;
        };
    }

    long span(int part, int from, int to) {
        if (!in(part, 0, 4) || !in(from, -30000, 30000) || !in(to, -30000, 30000) || from > to) {
            return 0;
        }
        spans[part] = new int[] {from, to};
        return 1;
    }

    private boolean inTune(Cast c, int[] thick) {
        for (int p = 0; p < 5; p++) {
            if (!in(part(c.mould, thick, p), spans[p][0], spans[p][1])) {
                return false;
            }
        }
        return true;
    }

    private boolean goThrough(Cast c, int[] thick, int[] cuts, int h, int left) {
        if (h == 8) {
            return left == 0 && inTune(c, thick);
        }
        for (int n = 0; n <= left && thick[h] >= c.mould.at[6][h]; n++) {
            cuts[h] = n;
            if (goThrough(c, thick, cuts, h + 1, left - n)) {
                return true;
            }
            thick[h]--;
        }
        thick[h] = c.thick[h];
        return false;
    }

    private int[] cutsOf(Cast c) {
        if (c == null || c.old || c.cracked) {
            return null;
        }
        for (int together = 0; together <= 12; together++) {
            int[] cuts = new int[8];
            if (goThrough(c, c.thick.clone(), cuts, 0, together)) {
                return cuts;
            }
        }
        return null;
    }

    private static int sum(int[] cuts) {
        int s = 0;
        for (int n : cuts) {
            s += n;
        }
        return s;
    }

    long tuning(int bell) {
        int[] cuts = cutsOf(bellAt(bell));
        return cuts == null ? -1 : sum(cuts);
    }

    long tune(int bell) {
        Cast c = bellAt(bell);
        int[] cuts = cutsOf(c);
        if (cuts == null) {
            return -1;
        }
        for (int h = 0; h < 8; h++) {
            for (int n = 0; n < cuts[h]; n++) {
                cut(bell, h);
            }
        }
        return sum(cuts);
    }

    long tuningAt(int bell, int h) {
        int[] cuts = in(h, 0, 7) ? cutsOf(bellAt(bell)) : null;
        return cuts == null ? -1 : cuts[h];
    }

    long note(int step) {
        if (!in(step, -5000, 5000) || steps.size() == 8) {
            return -1;
        }
        steps.add(step);
        return steps.size();
    }

    long ring(int off) {
        if (!in(off, 0, 200)) {
            return 0;
        }
        steps.clear();
        awry = off;
        return 1;
    }

    private int bestWeight;
    private int[] best;

    private void goOn(int[] taken, int note, int soFar) {
        if (best != null && soFar > bestWeight) {
            return;
        }
        if (note == steps.size()) {
            if (best == null || soFar < bestWeight) {
                best = taken.clone();
                bestWeight = soFar;
            }
            return;
        }
        for (Cast c : bells) {
            if (!c.cracked && agrees(c, taken, note)) {
                taken[note] = c.number;
                goOn(taken, note + 1, soFar + weight(c.mould, c.thick));
            }
        }
    }

    private boolean agrees(Cast c, int[] taken, int note) {
        for (int i = 0; i < note; i++) {
            if (taken[i] == c.number) {
                return false;
            }
        }
        if (note == 0) {
            return true;
        }
        Cast first = bellAt(taken[0]);
        int above = part(c.mould, c.thick, 0) - part(first.mould, first.thick, 0);
        return Math.abs(above - steps.get(note)) <= awry;
    }

    private void chooseRing() {
        best = null;
        bestWeight = -1;
        if (!steps.isEmpty()) {
            goOn(new int[steps.size()], 0, 0);
        }
    }

    long ringWeight() {
        chooseRing();
        return bestWeight;
    }

    long ringBell(int i) {
        chooseRing();
        return best == null || !in(i, 0, steps.size() - 1) ? -1 : best[i];
    }

    private long pulls() {
        long sum = 0;
        for (Cast c : bells) {
            sum += pull(c);
        }
        return sum;
    }

    long tower(int way, int share, int most) {
        if (!in(way, -1, 4) || (way >= 0 && !in(share, 0, 300)) || !in(most, 0, 1000000)) {
            return 0;
        }
        int before = way >= 0 ? shares[way] : 0;
        if (way >= 0) {
            shares[way] = share;
        }
        if (pulls() > most) {
            if (way >= 0) {
                shares[way] = before;
            }
            return 0;
        }
        bears = most;
        return 1;
    }

    long hang(int bell, int way) {
        Cast c = bellAt(bell);
        if (c == null || c.cracked || !in(way, -1, 4)) {
            return 0;
        }
        int before = c.way;
        c.way = way;
        if (pulls() > bears) {
            c.way = before;
            return 0;
        }
        return 1;
    }

    long about(int what) {
        if (what >= 10 && what <= 14) {
            return shares[what - 10];
        }
        long metal = 0;
        for (Cast c : bells) {
            metal += c.cracked ? 0 : weight(c.mould, c.thick);
        }
        long[] told = {moulds.size(), bells.size(), copper, tin, heap, metal, steps.size(), awry, pulls(), bears};
        return in(what, 0, 9) ? told[what] : -1;
    }
}
