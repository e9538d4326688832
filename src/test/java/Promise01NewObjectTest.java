/** Promise 1: a new object. */
public final class Promise01NewObjectTest {
    private static final Check C = new Check("promise 1");

    public static void main(String[] args) {
        noProfilesBellsMetalNotes();
        nothingCanBeDoneWithTheFirstOfEach();
        numbersBeginAtTheirFirst();
        objectsShareNothing();
        C.end();
    }

    private static void noProfilesBellsMetalNotes() {
        C.sentence("No PROFILES, bells, metal, NOTES.");
        BellFoundry f = new BellFoundry();
        for (int what = 0; what <= 14; what++) {
            C.due("about(" + what + ")", f.about(what), 0);
        }
    }

    private static void nothingCanBeDoneWithTheFirstOfEach() {
        C.sentence("No PROFILES, bells, metal, NOTES.");
        Twins.refuses(C, "shape", BellFoundry::new, f -> f.shape(0, 0, 0, 0));
        Twins.refuses(C, "base", BellFoundry::new, f -> f.base(0, 0, 0));
        Twins.none(C, "cast", BellFoundry::new, f -> f.cast(0));
        Twins.none(C, "cut", BellFoundry::new, f -> f.cut(0, 0));
        Twins.refuses(C, "old", BellFoundry::new, f -> f.old(0));
        Twins.refuses(C, "crack", BellFoundry::new, f -> f.crack(0));
        Twins.leaves(C, "bellOf", BellFoundry::new, -100000, f -> f.bellOf(0, 0));
        Twins.none(C, "tuning", BellFoundry::new, f -> f.tuning(0));
        Twins.none(C, "tune", BellFoundry::new, f -> f.tune(0));
        Twins.none(C, "tuningAt", BellFoundry::new, f -> f.tuningAt(0, 0));
        Twins.none(C, "ringWeight", BellFoundry::new, BellFoundry::ringWeight);
        Twins.none(C, "ringBell", BellFoundry::new, f -> f.ringBell(0));
        Twins.refuses(C, "hang", BellFoundry::new, f -> f.hang(0, 0));
        Twins.refuses(C, "hang, down", BellFoundry::new, f -> f.hang(0, -1));
    }

    private static void numbersBeginAtTheirFirst() {
        C.sentence("No PROFILES, bells, metal, NOTES.");
        C.due("first profile", new BellFoundry().profile(9), 0);
        C.due("first note", new BellFoundry().note(9), 1);
        BellFoundry f = new BellFoundry();
        f.profile(1);
        C.due("no metal for a bell of 1", f.cast(0), -1);
        f.buy(1, 0);
        C.due("first bell", f.cast(0), 0);
    }

    private static void objectsShareNothing() {
        C.sentence("No PROFILES, bells, metal, NOTES.");
        Making.busy();
        C.same("behind another that was busy", Twins.now(new BellFoundry()),
                "about 0 0 0 0 0 0 0 0 0 0 0 0 0 0 0| ring -1 -1 -1 -1 -1 -1 -1 -1 -1");
    }
}
