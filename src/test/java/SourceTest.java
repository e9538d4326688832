import java.nio.file.Files;
import java.nio.file.Path;
import java.util.regex.Matcher;
import java.util.regex.Pattern;

/** What of LANGUAGE.md can be seen in the program's text. Run from the project's own directory. */
public final class SourceTest {
    private static final String[] RULED_OUT = {
        "\\bthrow\\b", "\\bthrows\\b", "\\btry\\b", "\\bcatch\\b", "\\bsynchronized\\b", "\\bassert\\b", "\\bpackage\\b",
        "\\bprotected\\b", "->", "::", "Exact\\(", "\\bObject\\b", "\\bvar\\b", "\\bSystem\\.(?!arraycopy)", "\\bRandom\\b",
        "\\bThread\\b", "\\bequals\\(", "\\bhashCode\\(", "\\btoString\\(", "\\bstatic \\{", "@", "\\bnew \\w+\\([^)]*\\) \\{",
        "\\bstatic (?!final\\b|class\\b)[\\w\\[\\]]+ \\w+( =|;)", "\\bwhile \\(true\\)", "for \\(;;", "[^\\x00-\\x7f]"
    };

    public static void main(String[] args) throws Exception {
        Check c = new Check("source");
        String text = Files.readString(Path.of("src/main/java/BellFoundry.java"));
        String code = text.replaceAll("(?s)/\\*.*?\\*/", "").replaceAll("//[^\n]*", "");
        for (String ruledOut : RULED_OUT) {
            Matcher m = Pattern.compile(ruledOut).matcher(code);
            c.no(ruledOut + " stands there", m.find());
        }
        Matcher imports = Pattern.compile("(?m)^import (.*);$").matcher(code);
        while (imports.find()) {
            c.yes("import of " + imports.group(1), imports.group(1).equals("java.util.Arrays"));
        }
        c.yes("some twelve classes", code.split("\\bclass \\w").length - 1 <= 12);
        methods(c, code);
        c.end();
    }

    private static void methods(Check c, String code) {
        Pattern head = Pattern.compile("(?m)^( +)(?:[\\w\\[\\]]+ )*(\\w+)\\(([^()]*)\\) \\{$");
        Matcher m = head.matcher(code);
        while (m.find()) {
            String name = m.group(2);
            if (name.equals("if") || name.equals("for") || name.equals("while") || name.equals("switch")) {
                continue;
            }
            int end = code.indexOf("\n" + m.group(1) + "}", m.start());
            int lines = code.substring(m.start(), end).split("\n").length;
            c.yes(name + " has " + lines + " lines", lines <= 60);
            c.yes(name + " takes too many", m.group(3).split(",").length <= 7);
        }
    }
}
