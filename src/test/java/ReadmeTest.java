import java.lang.reflect.Method;
import java.lang.reflect.Modifier;
import java.nio.file.Files;
import java.nio.file.Path;
import java.util.Map;
import java.util.TreeMap;
import java.util.regex.Matcher;
import java.util.regex.Pattern;

/** README.md tells each method, and its example answers as it says. Run from the project's own directory. */
public final class ReadmeTest {
    private static final Check C = new Check("readme");
    private static final Pattern CALL = Pattern.compile("(?m)^foundry\\.(\\w+)\\(([^)]*)\\); +// (true|false|NONE|-?\\d+)\\b");
    private static final Pattern ROW = Pattern.compile("(?m)^\\| `(\\w+)\\(([^)]*)\\)` \\|.*\\| ([^|]*) \\|$");

    public static void main(String[] args) throws Exception {
        String text = Files.readString(Path.of("README.md"));
        Map<String, Method> face = face();
        theExampleAnswersAsItSays(text, face);
        theTableHasEachMethod(text, face);
        C.yes("it says how the tests are run", text.contains("\n.ci/run\n"));
        C.end();
    }

    private static Map<String, Method> face() {
        Map<String, Method> face = new TreeMap<>();
        for (Method m : BellFoundry.class.getDeclaredMethods()) {
            if (Modifier.isPublic(m.getModifiers())) {
                face.put(m.getName(), m);
            }
        }
        return face;
    }

    private static void theExampleAnswersAsItSays(String text, Map<String, Method> face) throws Exception {
        BellFoundry foundry = new BellFoundry();
        Map<String, Method> left = new TreeMap<>(face);
        int calls = 0;
        Matcher call = CALL.matcher(text);
        while (call.find()) {
            calls++;
            Method m = face.get(call.group(1));
            C.due(call.group(), number(String.valueOf(m.invoke(foundry, numbers(call.group(2))))), number(call.group(3)));
            left.remove(call.group(1));
        }
        C.yes("not shown: " + left.keySet(), left.isEmpty());
        C.due("calls without an answer", text.split("\nfoundry\\.", -1).length - 1 - calls, 0);
    }

    private static Object[] numbers(String list) {
        String[] words = list.isEmpty() ? new String[0] : list.split(", ");
        Object[] numbers = new Object[words.length];
        for (int i = 0; i < words.length; i++) {
            numbers[i] = Integer.valueOf(words[i]);
        }
        return numbers;
    }

    private static long number(String answer) {
        switch (answer) {
            case "true":
                return 1;
            case "false":
                return 0;
            case "NONE":
                return BellFoundry.NONE;
            default:
                return Long.parseLong(answer);
        }
    }

    private static void theTableHasEachMethod(String text, Map<String, Method> face) {
        Map<String, Method> left = new TreeMap<>(face);
        Matcher row = ROW.matcher(text);
        while (row.find()) {
            Method m = left.remove(row.group(1));
            C.yes(row.group(1) + " is of the face and told once", m != null);
            if (m != null) {
                int takes = row.group(2).isEmpty() ? 0 : row.group(2).split(", ").length;
                C.due(m.getName() + " takes", takes, m.getParameterCount());
                C.yes(m.getName() + " refused answers " + row.group(3), row.group(3).equals(refusal(m)));
            }
        }
        C.yes("not told: " + left.keySet(), left.isEmpty());
    }

    private static String refusal(Method m) {
        if (m.getReturnType() == boolean.class) {
            return "`false`";
        }
        return m.getName().equals("bellOf") ? "-100000" : "`NONE`";
    }
}
