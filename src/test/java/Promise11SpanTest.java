/** Promise 11: span. */
public final class Promise11SpanTest {
    private static final Check C = new Check("promise 11");

    public static void main(String[] args) {
        numbers();
        noSuchPart();
        noSuchNumbers();
        fromAboveTo();
        ofOnePart();
        C.end();
    }

    private static void numbers() {
        C.sentence("from, to (-30000 .. 30000");
        int[][] taken = {{-30000, 30000}, {-30000, -30000}, {30000, 30000}, {-30000, -29999}, {29999, 30000}, {0, 0}, {-1, 1}};
        for (int part = 0; part < 5; part++) {
            for (int[] t : taken) {
                BellFoundry f = Making.withBells(10);
                C.yes("span(" + part + ", " + t[0] + ", " + t[1] + ")", f.span(part, t[0], t[1]));
                C.due("0 is within", f.tuning(0), t[0] <= 0 && t[1] >= 0 ? 0 : -1);
            }
        }
    }

    private static void noSuchPart() {
        C.sentence("False, changing nothing: no such part");
        for (int part : Twins.others(-2, -1, 5, 6)) {
            Twins.refuses(C, "part " + part, Making::busy, f -> f.span(part, 0, 1));
            Twins.refuses(C, "part " + part + ", widest", Making::busy, f -> f.span(part, -30000, 30000));
        }
    }

    private static void noSuchNumbers() {
        C.sentence("False, changing nothing: .. numbers");
        for (int part = 0; part < 5; part++) {
            int of = part;
            for (int from : Twins.others(-30001, 30001)) {
                Twins.refuses(C, "from " + from + " in part " + part, Making::busy, f -> f.span(of, from, 30000));
                Twins.refuses(C, "from and to " + from + " in part " + part, Making::busy, f -> f.span(of, from, from));
            }
            for (int to : Twins.others(-30001, 30001)) {
                Twins.refuses(C, "to " + to + " in part " + part, Making::busy, f -> f.span(of, -30000, to));
            }
            Twins.refuses(C, "both outside", Making::busy, f -> f.span(of, -30001, 30001));
            Twins.refuses(C, "all ints", Making::busy, f -> f.span(of, Integer.MIN_VALUE, Integer.MAX_VALUE));
        }
    }

    private static void fromAboveTo() {
        C.sentence("False, changing nothing: .. or from above to");
        int[][] refused = {{1, 0}, {1027, 1026}, {-29999, -30000}, {30000, 29999}, {30000, -30000},
            {Integer.MAX_VALUE, Integer.MIN_VALUE}};
        for (int part = 0; part < 5; part++) {
            int of = part;
            for (int[] r : refused) {
                Twins.refuses(C, "span(" + part + ", " + r[0] + ", " + r[1] + ")", Making::busy, f -> f.span(of, r[0], r[1]));
            }
        }
        BellFoundry f = Making.withTables(20, 1);
        C.yes("from as high as to", f.span(0, 18, 18));
        C.no("from above to by one", f.span(0, 18, 17));
        C.due("the span as it was", f.tuning(0), 2);
    }

    private static void ofOnePart() {
        C.sentence("The SPAN of a part: true.");
        BellFoundry f = Making.rich();
        f.profile(10);
        for (int part = 0; part < 5; part++) {
            f.base(0, part, 100 * part);
        }
        f.cast(0);
        for (int part = 0; part < 5; part++) {
            C.yes("just there", f.span(part, 100 * part, 100 * part));
            C.due("within", f.tuning(0), 0);
            C.yes("above", f.span(part, 100 * part + 1, 30000));
            C.due("not within", f.tuning(0), -1);
            C.yes("below", f.span(part, -30000, 100 * part - 1));
            C.due("not within", f.tuning(0), -1);
            C.yes("just there again", f.span(part, 100 * part, 100 * part));
            C.due("within", f.tuning(0), 0);
        }
    }
}
