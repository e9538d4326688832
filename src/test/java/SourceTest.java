import java.lang.reflect.Field;
import java.lang.reflect.Method;
import java.lang.reflect.Modifier;
import java.nio.file.Files;
import java.nio.file.Path;
import java.util.ArrayList;
import java.util.HashSet;
import java.util.List;
import java.util.Map;
import java.util.Set;
import java.util.TreeMap;
import java.util.regex.Matcher;
import java.util.regex.Pattern;

/** What of LANGUAGE.md can be seen in the program's text and classes. Run from the project's own directory. */
public final class SourceTest {
    private static final Check C = new Check("source");
    private static final String[] RULED_OUT = {
        "\\bthrow\\b", "\\bthrows\\b", "\\btry\\b", "\\bcatch\\b", "\\bsynchronized\\b", "\\bassert\\b", "\\bpackage\\b",
        "\\bprotected\\b", "->", "::", "Exact\\(", "\\bObject\\b", "\\bvar\\b", "\\bRandom\\b",
        "\\bThread\\b", "\\bequals\\(", "\\bhashCode\\(", "\\btoString\\(", "\\bstatic \\{", "@", "\\bnew \\w+\\([^)]*\\) \\{",
        "\\bwhile \\(true\\)", "for \\(;;", "[^\\x00-\\x7f]"
    };
    private static final Set<String> LIBRARY = Set.of("Arrays.fill", "Arrays.copyOf", "Arrays.copyOfRange", "System.arraycopy",
        "Math.min", "Math.max", "Math.abs", "Math.floorDiv", "Math.floorMod");
    private static final Set<Class<?>> CONSTANTS = Set.of(int.class, long.class, boolean.class, char.class, String.class,
        int[].class, long[].class, char[].class, byte[].class);
    private static final Set<String> WORDS = Set.of("if", "for", "while", "switch");

    public static void main(String[] args) throws Exception {
        String text = Files.readString(Path.of("src/main/java/BellFoundry.java"));
        String code = text.replaceAll("(?s)/\\*.*?\\*/", "").replaceAll("//[^\n]*", "");
        noWordThatIsRuledOut(code);
        onlyTheLibraryThatIsListed(code);
        Map<String, String> bodies = shortMethods(code);
        for (String name : bodies.keySet()) {
            C.yes("calls eight deep from " + name, depth(name, bodies, new ArrayList<>()) <= 8);
        }
        classesInside();
        C.end();
    }

    private static void noWordThatIsRuledOut(String code) {
        for (String ruledOut : RULED_OUT) {
            C.no(ruledOut + " stands there", Pattern.compile(ruledOut).matcher(code).find());
        }
    }

    private static void onlyTheLibraryThatIsListed(String code) {
        Matcher imports = Pattern.compile("(?m)^import (.*);$").matcher(code);
        while (imports.find()) {
            C.yes("import of " + imports.group(1), imports.group(1).equals("java.util.Arrays"));
        }
        Matcher used = Pattern.compile("\\b(Arrays|Math|System|Integer|Long|String|Boolean|Character)\\.\\w+").matcher(code);
        while (used.find()) {
            C.yes(used.group() + " is listed", LIBRARY.contains(used.group()));
        }
    }

    /** What stands in each method, those of one name together. */
    private static Map<String, String> shortMethods(String code) {
        Map<String, String> bodies = new TreeMap<>();
        Matcher m = Pattern.compile("(?m)^( +)(?:[\\w\\[\\]]+ )*(\\w+)\\(([^()]*)\\) \\{$").matcher(code);
        while (m.find()) {
            String name = m.group(2);
            if (WORDS.contains(name)) {
                continue;
            }
            String body = code.substring(m.end(), code.indexOf("\n" + m.group(1) + "}", m.start()));
            C.yes(name + " has at most sixty lines", body.split("\n").length <= 60);
            C.yes(name + " takes at most seven", m.group(3).split(",").length <= 7);
            bodies.merge(name, body, String::concat);
        }
        return bodies;
    }

    /** The calls that stand open at once; a method that calls itself counts once. */
    private static int depth(String name, Map<String, String> bodies, List<String> open) {
        if (open.contains(name)) {
            C.yes(name + " is called again by itself alone", open.get(open.size() - 1).equals(name));
            return 0;
        }
        open.add(name);
        int deepest = 0;
        for (String called : bodies.keySet()) {
            if (Pattern.compile("\\b" + called + "\\(").matcher(bodies.get(name)).find()) {
                deepest = Math.max(deepest, depth(called, bodies, open));
            }
        }
        open.remove(open.size() - 1);
        return deepest + 1;
    }

    private static void classesInside() {
        Set<String> face = new HashSet<>();
        for (Method m : BellFoundry.class.getDeclaredMethods()) {
            if (Modifier.isPublic(m.getModifiers())) {
                face.add(m.getName());
            }
        }
        List<Class<?>> all = new ArrayList<>(List.of(BellFoundry.class.getDeclaredClasses()));
        for (Class<?> inside : all) {
            int how = inside.getModifiers();
            C.yes(inside + " is static and not seen", Modifier.isStatic(how) && !Modifier.isPublic(how));
        }
        C.yes("some twelve classes", all.size() + 1 <= 12);
        all.add(BellFoundry.class);
        for (Class<?> c : all) {
            fields(c);
            for (Method m : c.getDeclaredMethods()) {
                boolean ofTheFace = Modifier.isPublic(m.getModifiers());
                C.yes(m + " has a name of its own", ofTheFace || !face.contains(m.getName()));
            }
        }
    }

    private static void fields(Class<?> c) {
        int ofAnObject = 0;
        for (Field f : c.getDeclaredFields()) {
            if (Modifier.isStatic(f.getModifiers())) {
                C.yes(f + " is a constant", Modifier.isFinal(f.getModifiers()) && CONSTANTS.contains(f.getType()));
            } else {
                ofAnObject++;
            }
        }
        C.yes(c + " has some twenty fields", ofAnObject <= 20);
    }
}
