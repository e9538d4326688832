import java.lang.reflect.Method;
import java.lang.reflect.Modifier;
import java.util.ArrayList;
import java.util.Arrays;
import java.util.List;

/** Every method with every mixture of edges as its arguments, each call answered as Plain answers it. */
public final class AnyArgumentsTest {
    private static final int CALLS = 512;
    private static final int FEW_BELLS = 6;
    private static final int MIN = Integer.MIN_VALUE;
    private static final int MAX = Integer.MAX_VALUE;
    private static final int[] SMALL = {MIN, -2, -1, 0, 1, 2, 3, 4, 5, 6, 7, 8, 9, MAX};
    private static final int[] EDGES = {MIN, MIN + 1, -100000001, -1000001, -30001, -30000, -20001, -20000, -5001, -5000,
        -300, -51, -50, -2, -1, 0, 1, 2, 3, 4, 5, 6, 7, 8, 9, 10, 14, 15, 17, 18, 19, 23, 24, 49, 50, 51, 98, 99, 100, 200, 201,
        300, 301, 999, 1000, 1026, 5000, 5001, 20000, 20001, 30000, 30001, 1000000, 1000001, 100000000, MAX - 1, MAX};
    private static final String[] PAST = {
        "buy 5000 4000", "profile 100", "shape 0 7 0 5", "shape 0 6 0 3", "shape 0 0 0 2", "shape 0 7 7 3", "shape 0 0 7 5",
        "shape 0 2 7 -6", "base 0 0 1000", "profile 40", "shape 1 7 0 3", "shape 1 0 0 7", "base 1 0 1009", "cast 0", "cast 0",
        "cast 1", "cast 1", "old 1", "crack 2", "span 0 1000 1020", "span 2 -30 9", "ring 3", "note 0", "note 4",
        "tower 0 50 10000", "tower 1 120 10000", "hang 0 0", "hang 3 1", "tower -1 0 120"
    };

    private static final Check C = new Check("any arguments");

    private BellFoundry got;
    private Plain due;
    private int calls;

    public static void main(String[] args) throws Exception {
        for (Method m : BellFoundry.class.getDeclaredMethods()) {
            if (Modifier.isPublic(m.getModifiers()) && C.wrongSoFar() < 20) {
                new AnyArgumentsTest().every(m);
            }
        }
        C.end();
    }

    private void begin() throws Exception {
        got = new BellFoundry();
        due = new Plain();
        calls = 0;
        for (String call : PAST) {
            String[] words = call.split(" ");
            Object[] with = new Object[words.length - 1];
            for (int i = 0; i < with.length; i++) {
                with[i] = Integer.valueOf(words[i + 1]);
            }
            same(methodOf(BellFoundry.class, words[0]), with);
        }
    }

    private static Method methodOf(Class<?> of, String name) {
        for (Method m : of.getDeclaredMethods()) {
            if (m.getName().equals(name)) {
                return m;
            }
        }
        throw new IllegalArgumentException(name);
    }

    private void same(Method m, Object... with) throws Exception {
        calls++;
        Object answer = m.invoke(got, with);
        long told = answer instanceof Boolean yes ? (yes ? 1 : 0) : (Integer) answer;
        Method plain = Plain.class.getDeclaredMethod(m.getName(), m.getParameterTypes());
        C.due(m.getName() + Arrays.toString(with), told, (Long) plain.invoke(due, with));
    }

    private void every(Method m) throws Exception {
        List<Object[]> mixtures = new ArrayList<>();
        mix(new Object[m.getParameterCount()], 0, mixtures);
        begin();
        for (Object[] with : mixtures) {
            if (calls + callsToAskAll() + 1 > CALLS) {
                askAll();
                begin();
            }
            same(m, with);
        }
        askAll();
    }

    /** Four arguments of all edges would be too many: the first are numbers of things, the last a value. */
    private static void mix(Object[] with, int at, List<Object[]> mixtures) {
        if (at == with.length) {
            mixtures.add(with.clone());
            return;
        }
        for (int v : at < with.length - 2 || with.length == 4 && at < 3 ? SMALL : EDGES) {
            with[at] = v;
            mix(with, at + 1, mixtures);
        }
    }

    private int callsToAskAll() {
        return 15 + FEW_BELLS * 20 + 9;
    }

    private void askAll() throws Exception {
        Method about = methodOf(BellFoundry.class, "about");
        for (int what = 0; what < 15; what++) {
            same(about, what);
        }
        for (int b = 0; b < Math.min(due.bells.size(), FEW_BELLS); b++) {
            for (int what = 0; what < 19; what++) {
                same(methodOf(BellFoundry.class, "bellOf"), b, what);
            }
            same(methodOf(BellFoundry.class, "tuning"), b);
        }
        same(methodOf(BellFoundry.class, "ringWeight"));
        for (int i = 0; i < 8; i++) {
            same(methodOf(BellFoundry.class, "ringBell"), i);
        }
    }
}
