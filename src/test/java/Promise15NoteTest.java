/** Promise 15: note. */
public final class Promise15NoteTest {
    private static final Check C = new Check("promise 15");

    public static void main(String[] args) {
        steps();
        others();
        thereAre8();
        behindThoseOfTheRing();
        C.end();
    }

    private static void steps() {
        C.sentence("each a step (-5000 .. 5000)");
        int[] taken = {-5000, -4999, 0, 4999, 5000};
        for (int step : taken) {
            BellFoundry f = Making.withTones(0, 0, step, 0);
            C.due("first note " + step, f.note(step), 1);
            C.due("note " + step, f.note(step), 2);
            C.due("so many", f.about(6), 2);
            Rings.due(C, "step " + step, f, 200, 0, 1);
        }
    }

    private static void others() {
        C.sentence("NONE for others");
        for (int step : Twins.others(-5001, 5001)) {
            Twins.none(C, "first note " + step, BellFoundry::new, f -> f.note(step));
            Twins.none(C, "third note " + step, Making::busy, f -> f.note(step));
            Twins.none(C, "ninth note " + step, Making::fullOfNotes, f -> f.note(step));
        }
    }

    private static void thereAre8() {
        C.sentence("or if there are 8");
        BellFoundry f = new BellFoundry();
        for (int n = 1; n <= 8; n++) {
            C.due("note", f.note(n), n);
            C.due("so many", f.about(6), n);
        }
        C.due("a ninth", f.note(0), -1);
        C.due("still eight", f.about(6), 8);
        int[] steps = {-5000, 0, 5000};
        for (int step : steps) {
            Twins.none(C, "a ninth, " + step, Making::fullOfNotes, x -> x.note(step));
        }
        f.ring(0);
        C.due("the first again", f.note(0), 1);
    }

    private static void behindThoseOfTheRing() {
        C.sentence("A NOTE comes behind those of the RING: how many.");
        BellFoundry f = Making.withTones(0, 0, 100, 1, 250, 2);
        f.note(7);
        f.note(250);
        f.note(100);
        Rings.due(C, "in their order", f, 303, 0, 2, 1);
    }
}
