/** Promise 18: ringBell. */
public final class Promise18RingBellTest {
    private static final Check C = new Check("promise 18");

    public static void main(String[] args) {
        theBellOfANote();
        noneAsAbove();
        others();
        eightNotes();
        changesNothing();
        C.end();
    }

    private static void theBellOfANote() {
        C.sentence("The bell of a NOTE.");
        BellFoundry f = Making.withTones(1000, 0, 1200, 1, 900, 2);
        Making.sing(f, 0, 0, 200, -100);
        Rings.due(C, "above and below", f, 303, 0, 1, 2);
        Making.sing(f, 0, 0, -200, -300);
        Rings.due(C, "from the highest", f, 303, 1, 0, 2);
        f.ring(0);
        f.note(0);
        C.due("asked before ringWeight", f.ringBell(0), 0);
    }

    private static void noneAsAbove() {
        C.sentence("NONE as above");
        for (int i = 0; i < 8; i++) {
            int note = i;
            Twins.none(C, "no notes, " + i, () -> Making.withBells(10), f -> f.ringBell(note));
        }
        BellFoundry f = Making.withTones(0, 0, 10, 0);
        Making.sing(f, 0, 0, 11);
        for (int i = -1; i < 9; i++) {
            C.due("no bells that agree, " + i, f.ringBell(i), -1);
        }
        f = new BellFoundry();
        f.note(0);
        C.due("no bells", f.ringBell(0), -1);
    }

    private static void others() {
        C.sentence("and for others");
        for (int i : Twins.others(-2, -1, 2, 3, 7, 8)) {
            Twins.none(C, "ringBell(" + i + ") of two", Making::busy, f -> f.ringBell(i));
        }
        BellFoundry f = Making.busy();
        C.due("the first of two", f.ringBell(0), 0);
        C.due("the last of two", f.ringBell(1), 3);
        C.due("behind it", f.ringBell(2), -1);
    }

    private static void eightNotes() {
        C.sentence("and for others");
        BellFoundry f = Making.withTones(0, 0, 10, 0, 20, 0, 30, 0, 40, 0, 50, 0, 60, 0, 70, 0);
        Making.sing(f, 0, 0, -10, -20, -30, -40, -50, -60, -70);
        for (int i = 0; i < 8; i++) {
            C.due("note " + i, f.ringBell(i), 7 - i);
        }
        for (int i : Twins.others(-1, 8, 9)) {
            C.due("ringBell(" + i + ") of eight", f.ringBell(i), -1);
        }
    }

    private static void changesNothing() {
        C.sentence("The bell of a NOTE.");
        Twins.leaves(C, "ringBell(0)", Making::busy, 0, f -> f.ringBell(0));
        Twins.leaves(C, "ringBell(1)", Making::busy, 3, f -> f.ringBell(1));
    }
}
