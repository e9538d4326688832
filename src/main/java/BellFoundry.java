import java.util.Arrays;

/** A bell foundry: profiles, bells cast and cut by them, their tuning, a ring of them and the tower they hang in. */
public final class BellFoundry {
    public static final int NONE = -1;

    private static final int NO_ANSWER = -100000;

    private static final int MOST_PROFILES = 4;
    private static final int MOST_BELLS = 24;
    private static final int MOST_NOTES = 8;
    private static final int HEIGHTS = 8;
    private static final int PARTS = 5;
    private static final int WAYS = 5;
    private static final int MOST_CUTS = 12;

    private static final int MOST_THICKNESS = 99;
    private static final int MOST_METAL = 50;
    private static final int MOST_TABLE = 50;
    private static final int MOST_WEIGHT = 5000;
    private static final int MOST_BASE = 20000;
    private static final int MOST_BOUGHT = 1000000;
    private static final int MOST_STORED = 100000000;
    private static final int MOST_SPAN = 30000;
    private static final int MOST_STEP = 5000;
    private static final int MOST_AWRY = 200;
    private static final int MOST_SHARE = 300;
    private static final int MOST_BORNE = 1000000;

    private static final int SHAPE_METAL = 5;
    private static final int SHAPE_LEAST = 6;
    private static final int SHAPE_THICKNESS = 7;

    private static final int BELL_THICKNESS = 10;
    private static final int ABOUT_SHARE = 10;

    private final Profile[] profiles;
    private int profileCount;
    private final Bell[] bells;
    private int bellCount;
    private int copper;
    private int tin;
    private int heap;
    private final Tuner tuner;
    private final Chooser chooser;
    private final int[] shares;
    private int bears;

    public BellFoundry() {
        profiles = new Profile[MOST_PROFILES];
        bells = new Bell[MOST_BELLS];
        tuner = new Tuner();
        chooser = new Chooser();
        shares = new int[WAYS];
    }

    public int profile(int weight) {
        if (profileCount >= MOST_PROFILES || !within(weight, 0, MOST_WEIGHT)) {
            return NONE;
        }
        profiles[profileCount] = new Profile(weight);
        profileCount++;
        return profileCount - 1;
    }

    public boolean shape(int profile, int what, int h, int v) {
        Profile of = profileAt(profile);
        if (of == null || !isHeight(h)) {
            return false;
        }
        if (isPart(what)) {
            return of.setTable(what, h, v);
        }
        switch (what) {
            case SHAPE_METAL:
                return of.setMetal(h, v);
            case SHAPE_LEAST:
                return of.setLeast(h, v);
            case SHAPE_THICKNESS:
                return of.setThickness(h, v);
            default:
                return false;
        }
    }

    public boolean base(int profile, int part, int v) {
        Profile of = profileAt(profile);
        if (of == null || !isPart(part) || !within(v, -MOST_BASE, MOST_BASE)) {
            return false;
        }
        of.bases[part] = v;
        return true;
    }

    public boolean buy(int copper, int tin) {
        if (!within(copper, 0, MOST_BOUGHT) || !within(tin, 0, MOST_BOUGHT)) {
            return false;
        }
        if (this.copper + copper > MOST_STORED || this.tin + tin > MOST_STORED) {
            return false;
        }
        this.copper += copper;
        this.tin += tin;
        return true;
    }

    public int cast(int profile) {
        Profile by = profileAt(profile);
        if (by == null || bellCount >= MOST_BELLS || !charge(by.castWeight())) {
            return NONE;
        }
        bells[bellCount] = new Bell(profile, by);
        bellCount++;
        chooser.forget();
        return bellCount - 1;
    }

    public int cut(int bell, int h) {
        Bell of = bellAt(bell);
        if (of == null || !isHeight(h) || !of.canBeTuned() || of.roomAt(h) < 1) {
            return NONE;
        }
        trim(of, h, 1);
        return of.thicknesses[h];
    }

    public boolean old(int bell) {
        Bell of = bellAt(bell);
        if (of == null) {
            return false;
        }
        of.isOld = true;
        return true;
    }

    public boolean crack(int bell) {
        Bell of = bellAt(bell);
        if (of == null || of.isCracked) {
            return false;
        }
        of.isCracked = true;
        of.way = NONE;
        heap += of.weightNow();
        chooser.forget();
        return true;
    }

    public int bellOf(int bell, int what) {
        Bell of = bellAt(bell);
        if (of == null) {
            return NO_ANSWER;
        }
        if (isPart(what)) {
            return of.partNow(what);
        }
        if (within(what, BELL_THICKNESS, BELL_THICKNESS + HEIGHTS - 1)) {
            return of.thicknesses[what - BELL_THICKNESS];
        }
        switch (what) {
            case 5:
                return of.weightNow();
            case 6:
                return of.isOld ? 1 : 0;
            case 7:
                return of.isCracked ? 1 : 0;
            case 8:
                return of.way;
            case 9:
                return pullBy(of, of.way, shareOf(of.way));
            case 18:
                return of.profileNumber;
            default:
                return NO_ANSWER;
        }
    }

    public boolean span(int part, int from, int to) {
        if (!isPart(part) || from > to || from < -MOST_SPAN || to > MOST_SPAN) {
            return false;
        }
        tuner.setSpan(part, from, to);
        return true;
    }

    public int tuning(int bell) {
        return plannedCuts(bellAt(bell));
    }

    public int tune(int bell) {
        Bell of = bellAt(bell);
        int planned = plannedCuts(of);
        if (of == null || planned < 1) {
            return planned;
        }
        for (int h = 0; h < HEIGHTS; h++) {
            trim(of, h, of.plan[h]);
        }
        return planned;
    }

    public int tuningAt(int bell, int h) {
        Bell of = bellAt(bell);
        if (of == null || !isHeight(h) || plannedCuts(of) == NONE) {
            return NONE;
        }
        return of.plan[h];
    }

    public int note(int step) {
        if (chooser.notes >= MOST_NOTES || !within(step, -MOST_STEP, MOST_STEP)) {
            return NONE;
        }
        chooser.addNote(step);
        return chooser.notes;
    }

    public boolean ring(int awry) {
        if (!within(awry, 0, MOST_AWRY)) {
            return false;
        }
        chooser.startAnew(awry);
        return true;
    }

    public int ringWeight() {
        chooser.choose(bells, bellCount);
        return chooser.chosenWeight();
    }

    public int ringBell(int i) {
        if (!within(i, 0, chooser.notes - 1)) {
            return NONE;
        }
        chooser.choose(bells, bellCount);
        return chooser.chosenBell(i);
    }

    public boolean tower(int way, int share, int bears) {
        if (!within(bears, 0, MOST_BORNE) || !(way == NONE || isWay(way))) {
            return false;
        }
        if (way != NONE && !within(share, 0, MOST_SHARE)) {
            return false;
        }
        if (pullsIf(way, share) > bears) {
            return false;
        }
        if (way != NONE) {
            shares[way] = share;
        }
        this.bears = bears;
        return true;
    }

    public boolean hang(int bell, int way) {
        Bell of = bellAt(bell);
        if (of == null || of.isCracked || !(way == NONE || isWay(way))) {
            return false;
        }
        int others = pullsTogether() - pullBy(of, of.way, shareOf(of.way));
        if (others + pullBy(of, way, shareOf(way)) > bears) {
            return false;
        }
        of.way = way;
        return true;
    }

    public int about(int what) {
        if (within(what, ABOUT_SHARE, ABOUT_SHARE + WAYS - 1)) {
            return shares[what - ABOUT_SHARE];
        }
        switch (what) {
            case 0:
                return profileCount;
            case 1:
                return bellCount;
            case 2:
                return copper;
            case 3:
                return tin;
            case 4:
                return heap;
            case 5:
                return soundMetal();
            case 6:
                return chooser.notes;
            case 7:
                return chooser.awry;
            case 8:
                return pullsTogether();
            case 9:
                return bears;
            default:
                return NONE;
        }
    }

    private static boolean within(int v, int from, int to) {
        return v >= from && v <= to;
    }

    private static boolean isHeight(int h) {
        return within(h, 0, HEIGHTS - 1);
    }

    private static boolean isPart(int part) {
        return within(part, 0, PARTS - 1);
    }

    private static boolean isWay(int way) {
        return within(way, 0, WAYS - 1);
    }

    private Profile profileAt(int number) {
        return within(number, 0, profileCount - 1) ? profiles[number] : null;
    }

    private Bell bellAt(int number) {
        return within(number, 0, bellCount - 1) ? bells[number] : null;
    }

    /** Takes the metal of a new bell, the heap's first; if some lacks, takes none and answers false. */
    private boolean charge(int weight) {
        int fromHeap = Math.min(heap, weight);
        int rest = weight - fromHeap;
        int ofCopper = (77 * rest + 99) / 100;
        int ofTin = rest - ofCopper;
        if (ofCopper > copper || ofTin > tin) {
            return false;
        }
        heap -= fromHeap;
        copper -= ofCopper;
        tin -= ofTin;
        return true;
    }

    private void trim(Bell of, int h, int cuts) {
        heap += of.takeOff(h, cuts);
        chooser.forget();
    }

    private int plannedCuts(Bell of) {
        if (of == null || !of.canBeTuned()) {
            return NONE;
        }
        tuner.plan(of);
        return of.planned;
    }

    private int soundMetal() {
        int together = 0;
        for (int b = 0; b < bellCount; b++) {
            Bell of = bells[b];
            if (of != null && !of.isCracked) {
                together += of.weightNow();
            }
        }
        return together;
    }

    private int shareOf(int way) {
        return isWay(way) ? shares[way] : 0;
    }

    private static int pullBy(Bell of, int way, int share) {
        return way == NONE ? 0 : of.weightNow() * share / 100;
    }

    private int pullsTogether() {
        return pullsIf(NONE, 0);
    }

    /** The pulls of all bells that hang, were the share of one way another. */
    private int pullsIf(int way, int share) {
        int together = 0;
        for (int b = 0; b < bellCount; b++) {
            Bell of = bells[b];
            if (of != null) {
                together += pullBy(of, of.way, of.way == way ? share : shareOf(of.way));
            }
        }
        return together;
    }

    /** The shape that bells are cast by. */
    private static final class Profile {
        final int weight;
        final int[] bases;
        final int[] tables;
        final int[] metals;
        final int[] leasts;
        final int[] thicknesses;

        Profile(int weight) {
            this.weight = weight;
            bases = new int[PARTS];
            tables = new int[PARTS * HEIGHTS];
            metals = new int[HEIGHTS];
            leasts = new int[HEIGHTS];
            thicknesses = new int[HEIGHTS];
            Arrays.fill(metals, 1);
        }

        Profile(Profile like) {
            weight = like.weight;
            bases = like.bases.clone();
            tables = like.tables.clone();
            metals = like.metals.clone();
            leasts = like.leasts.clone();
            thicknesses = like.thicknesses.clone();
        }

        boolean setTable(int part, int h, int v) {
            if (!within(v, -MOST_TABLE, MOST_TABLE)) {
                return false;
            }
            tables[part * HEIGHTS + h] = v;
            return true;
        }

        boolean setMetal(int h, int v) {
            if (!within(v, 1, MOST_METAL)) {
                return false;
            }
            metals[h] = v;
            return true;
        }

        boolean setLeast(int h, int v) {
            if (!within(v, 0, thicknesses[h])) {
                return false;
            }
            leasts[h] = v;
            return true;
        }

        boolean setThickness(int h, int v) {
            if (!within(v, leasts[h], MOST_THICKNESS)) {
                return false;
            }
            thicknesses[h] = v;
            return true;
        }

        int castWeight() {
            return weightWith(thicknesses);
        }

        int weightWith(int[] thick) {
            int together = weight;
            for (int h = 0; h < HEIGHTS; h++) {
                together += metals[h] * thick[h];
            }
            return together;
        }

        int partWith(int part, int[] thick) {
            int together = bases[part];
            for (int h = 0; h < HEIGHTS; h++) {
                together += tables[part * HEIGHTS + h] * thick[h];
            }
            return together;
        }
    }

    /** A bell, with the plan of its tuning for as long as neither it nor the spans change. */
    private static final class Bell {
        final int profileNumber;
        final Profile mould;
        final int[] thicknesses;
        boolean isOld;
        boolean isCracked;
        int way;
        final int[] plan;
        int planned;
        int plannedFor;

        /** Copies the profile, which may be shaped anew behind the casting. */
        Bell(int profileNumber, Profile by) {
            this.profileNumber = profileNumber;
            mould = new Profile(by);
            thicknesses = by.thicknesses.clone();
            way = NONE;
            plan = new int[HEIGHTS];
            planned = NONE;
            plannedFor = NONE;
        }

        int weightNow() {
            return mould.weightWith(thicknesses);
        }

        int partNow(int part) {
            return mould.partWith(part, thicknesses);
        }

        boolean canBeTuned() {
            return !isOld && !isCracked;
        }

        int roomAt(int h) {
            return thicknesses[h] - mould.leasts[h];
        }

        int tableAt(int part, int h) {
            return mould.tables[part * HEIGHTS + h];
        }

        /** The metal that comes off. */
        int takeOff(int h, int cuts) {
            thicknesses[h] -= cuts;
            plannedFor = NONE;
            return mould.metals[h] * cuts;
        }
    }

    /** Finds the fewest cuts by which a bell's parts come within their spans. */
    private static final class Tuner {
        final int[] froms;
        final int[] tos;
        int spansSet;
        final int[] values;
        final int[] roomFrom;
        final int[] highest;
        final int[] lowest;

        Tuner() {
            froms = new int[PARTS];
            tos = new int[PARTS];
            Arrays.fill(froms, -MOST_SPAN);
            Arrays.fill(tos, MOST_SPAN);
            values = new int[PARTS];
            roomFrom = new int[HEIGHTS + 1];
            highest = new int[PARTS * (HEIGHTS + 1)];
            lowest = new int[PARTS * (HEIGHTS + 1)];
        }

        void setSpan(int part, int from, int to) {
            froms[part] = from;
            tos[part] = to;
            spansSet++;
        }

        void plan(Bell of) {
            if (of.plannedFor == spansSet) {
                return;
            }
            of.plannedFor = spansSet;
            of.planned = NONE;
            Arrays.fill(of.plan, 0);
            prepare(of);
            int most = Math.min(MOST_CUTS, roomFrom[0]);
            for (int cuts = 0; cuts <= most; cuts++) {
                if (search(this, of, 0, cuts)) {
                    of.planned = cuts;
                    return;
                }
            }
        }

        private void prepare(Bell of) {
            for (int p = 0; p < PARTS; p++) {
                values[p] = of.partNow(p);
            }
            for (int h = HEIGHTS - 1; h >= 0; h--) {
                for (int p = 0; p < PARTS; p++) {
                    boundTables(of, p, h);
                }
                roomFrom[h] = roomFrom[h + 1] + of.roomAt(h);
            }
        }

        /** The highest and lowest table number among the heights from h on that can be cut. */
        private void boundTables(Bell of, int part, int h) {
            int here = h * PARTS + part;
            int above = here + PARTS;
            int table = of.tableAt(part, h);
            boolean cutHere = of.roomAt(h) > 0;
            boolean cutAbove = roomFrom[h + 1] > 0;
            if (cutHere && cutAbove) {
                highest[here] = Math.max(highest[above], table);
                lowest[here] = Math.min(lowest[above], table);
            } else {
                highest[here] = cutHere ? table : highest[above];
                lowest[here] = cutHere ? table : lowest[above];
            }
        }

        /**
         * Whether just so many cuts at the heights from h on do; the first plan found has the fewest at the
         * lower heights, since each height tries fewer cuts first. Goes one height up a level.
         */
        private static boolean search(Tuner by, Bell of, int h, int left) {
            if (!by.mayReach(h, left)) {
                return false;
            }
            if (left == 0) {
                return true;
            }
            if (h >= HEIGHTS) {
                return false;
            }
            int most = Math.min(of.roomAt(h), left);
            int here = Math.max(0, left - by.roomFrom[h + 1]);
            by.lower(of, h, here);
            while (here <= most) {
                if (search(by, of, h + 1, left - here)) {
                    of.plan[h] = here;
                    return true;
                }
                here++;
                by.lower(of, h, 1);
            }
            by.lower(of, h, -here);
            return false;
        }

        /** False only if no such cuts can do: keeps the search from most of its branches; exact if none are left. */
        private boolean mayReach(int h, int left) {
            for (int p = 0; p < PARTS; p++) {
                int at = h * PARTS + p;
                if (values[p] - left * lowest[at] < froms[p] || values[p] - left * highest[at] > tos[p]) {
                    return false;
                }
            }
            return true;
        }

        private void lower(Bell of, int h, int cuts) {
            for (int p = 0; p < PARTS; p++) {
                values[p] -= cuts * of.tableAt(p, h);
            }
        }
    }

    /**
     * Chooses the bells of the ring. A choice is one number, its weight above and its bells below, five bits a
     * note with the first note's highest: so the least number is the lightest choice and the first of those,
     * and the number of a choice is the sum of the numbers of its bells.
     */
    private static final class Chooser {
        private static final int BELL_BITS = 5;
        private static final int CODE_BITS = BELL_BITS * MOST_NOTES;
        private static final long NO_CHOICE = 1L << 62;

        final int[] steps;
        int notes;
        int awry;
        boolean known;
        long chosen;
        final int[] sound;
        int soundCount;
        final int[] weights;
        final int[] tones;
        final int[] holders;
        final long[] reach;
        final int[] cameFrom;

        Chooser() {
            steps = new int[MOST_NOTES];
            chosen = NO_CHOICE;
            sound = new int[MOST_BELLS];
            weights = new int[MOST_BELLS];
            tones = new int[MOST_BELLS];
            holders = new int[MOST_BELLS];
            reach = new long[MOST_BELLS];
            cameFrom = new int[MOST_BELLS];
        }

        void forget() {
            known = false;
        }

        void addNote(int step) {
            steps[notes] = step;
            notes++;
            known = false;
        }

        void startAnew(int allowed) {
            notes = 0;
            awry = allowed;
            known = false;
        }

        int chosenWeight() {
            return chosen == NO_CHOICE ? NONE : (int) (chosen >> CODE_BITS);
        }

        int chosenBell(int note) {
            if (chosen == NO_CHOICE) {
                return NONE;
            }
            return (int) (chosen >> placeOf(note)) & ((1 << BELL_BITS) - 1);
        }

        void choose(Bell[] bells, int bellCount) {
            if (known) {
                return;
            }
            known = true;
            chosen = NO_CHOICE;
            if (notes == 0) {
                return;
            }
            weigh(bells, bellCount);
            for (int i = 0; i < soundCount; i++) {
                chosen = Math.min(chosen, leastWithFirst(sound[i]));
            }
        }

        private static int placeOf(int note) {
            return BELL_BITS * (MOST_NOTES - 1 - note);
        }

        private long numberOf(int note, int bell) {
            return ((long) weights[bell] << CODE_BITS) + ((long) bell << placeOf(note));
        }

        private void weigh(Bell[] bells, int bellCount) {
            soundCount = 0;
            for (int b = 0; b < bellCount; b++) {
                Bell of = bells[b];
                if (of != null && !of.isCracked) {
                    weights[b] = of.weightNow();
                    tones[b] = of.partNow(0);
                    sound[soundCount] = b;
                    soundCount++;
                }
            }
        }

        /** The least choice whose first note has this bell; given up as soon as it isn't below the one there is. */
        private long leastWithFirst(int first) {
            Arrays.fill(holders, NONE);
            long together = numberOf(0, first);
            for (int n = 1; n < notes && together < chosen; n++) {
                long more = seat(n, first);
                together = more == NO_CHOICE ? NO_CHOICE : together + more;
            }
            return together;
        }

        /**
         * Gives a note more a bell, by the chain that adds least: the note takes a bell, whose holder takes
         * another, and so on to a bell that is free. If the notes before it had the least choice, they all have
         * it then; if there is no such chain, there is no choice for them all.
         */
        private long seat(int note, int first) {
            Arrays.fill(reach, NO_CHOICE);
            boolean better = reachFrom(note, first, NONE, 0);
            for (int moves = 1; moves < note && better; moves++) {
                better = moveHolders(first);
            }
            int end = nearestFree();
            if (end == NONE) {
                return NO_CHOICE;
            }
            passAlong(note, end);
            return reach[end];
        }

        private boolean moveHolders(int first) {
            boolean better = false;
            for (int i = 0; i < soundCount; i++) {
                int bell = sound[i];
                int holder = holders[bell];
                if (holder != NONE && reach[bell] != NO_CHOICE
                        && reachFrom(holder, first, bell, reach[bell] - numberOf(holder, bell))) {
                    better = true;
                }
            }
            return better;
        }

        /** What the chain adds up to at each bell that the note may take; whether one is reached for less. */
        private boolean reachFrom(int note, int first, int from, long soFar) {
            boolean better = false;
            for (int i = 0; i < soundCount; i++) {
                int bell = sound[i];
                int off = tones[bell] - tones[first] - steps[note];
                long there = soFar + numberOf(note, bell);
                if (bell != first && within(off, -awry, awry) && there < reach[bell]) {
                    reach[bell] = there;
                    cameFrom[bell] = from;
                    better = true;
                }
            }
            return better;
        }

        private int nearestFree() {
            int nearest = NONE;
            for (int i = 0; i < soundCount; i++) {
                int bell = sound[i];
                if (holders[bell] == NONE && reach[bell] != NO_CHOICE
                        && (nearest == NONE || reach[bell] < reach[nearest])) {
                    nearest = bell;
                }
            }
            return nearest;
        }

        private void passAlong(int note, int end) {
            int bell = end;
            for (int moves = 0; moves < note && bell != NONE; moves++) {
                int from = cameFrom[bell];
                holders[bell] = from == NONE ? note : holders[from];
                bell = from;
            }
        }
    }
}
