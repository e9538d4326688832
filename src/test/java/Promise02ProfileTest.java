/** Promise 2: profile. */
public final class Promise02ProfileTest {
    private static final Check C = new Check("promise 2");

    public static void main(String[] args) {
        weightOfTheRest();
        noneIfThereAreFour();
        aRefusedOneHasNoNumber();
        allZeroAtFirstMetalOne();
        C.end();
    }

    private static void weightOfTheRest() {
        C.sentence("WEIGHT of the rest (0 .. 5000)");
        int[] taken = {0, 1, 4999, 5000};
        for (int weight : taken) {
            BellFoundry f = Making.rich();
            C.due("profile(" + weight + ")", f.profile(weight), 0);
            f.cast(0);
            C.due("weight", f.bellOf(0, 5), weight);
        }
        for (int weight : Twins.others(-1, 5001)) {
            Twins.none(C, "profile(" + weight + ")", BellFoundry::new, f -> f.profile(weight));
            Twins.none(C, "a third, " + weight, Making::busy, f -> f.profile(weight));
        }
    }

    private static void noneIfThereAreFour() {
        C.sentence("NONE if there are 4.");
        BellFoundry f = Making.rich();
        int[] weights = {0, 5000, 7, 8};
        for (int p = 0; p < 4; p++) {
            C.due("profile", f.profile(weights[p]), p);
            C.due("so many", f.about(0), p + 1);
        }
        C.due("a fifth", f.profile(9), -1);
        C.due("still four", f.about(0), 4);
        for (int p = 0; p < 4; p++) {
            C.due("cast", f.cast(p), p);
            C.due("weight as it was", f.bellOf(p, 5), weights[p]);
        }
        for (int weight : Twins.others(0, 5000, -1, 5001)) {
            Twins.none(C, "a fifth, " + weight, Making::fourProfiles, x -> x.profile(weight));
        }
    }

    private static void aRefusedOneHasNoNumber() {
        C.sentence("A PROFILE more: its number.");
        BellFoundry f = new BellFoundry();
        for (int p = 0; p < 4; p++) {
            C.due("refused", f.profile(-1), -1);
            C.due("refused", f.profile(5001), -1);
            C.no("no such profile yet", f.base(p, 0, 0));
            C.due("its number", f.profile(p), p);
            C.yes("there it is", f.base(p, 0, 0));
        }
    }

    private static void allZeroAtFirstMetalOne() {
        C.sentence("All 0 at first, METAL 1.");
        BellFoundry f = Making.rich();
        f.profile(3);
        f.cast(0);
        for (int h = 0; h < 8; h++) {
            C.due("thickness", f.bellOf(0, 10 + h), 0);
            C.due("nothing to cut", f.cut(0, h), -1);
            f.shape(0, 7, h, 10);
        }
        f.cast(0);
        C.due("metal 1 at each height", f.bellOf(1, 5), 3 + 80);
        for (int p = 0; p < 5; p++) {
            C.due("base 0", f.bellOf(0, p), 0);
            C.due("table 0 at each height", f.bellOf(1, p), 0);
        }
        for (int h = 0; h < 8; h++) {
            for (int left = 9; left >= 0; left--) {
                C.due("least 0", f.cut(1, h), left);
            }
            C.due("not below it", f.cut(1, h), -1);
        }
    }
}
