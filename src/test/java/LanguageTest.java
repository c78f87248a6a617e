import java.nio.file.Files;
import java.nio.file.Path;
import java.util.ArrayList;
import java.util.List;
import java.util.regex.Matcher;
import java.util.regex.Pattern;

/** Rules of LANGUAGE.md that can be seen in the text of the class. */
public final class LanguageTest {

    private static final Path SOURCE = Path.of("src/main/java/WeighGates.java");
    private static final String[] LEFT_OUT = {
        "\\bthrow\\b", "\\bthrows\\b", "\\btry\\b", "\\bcatch\\b", "\\bassert\\b", "\\bsynchronized\\b",
        "\\bpackage\\b", "\\bvolatile\\b", "\\bnative\\b", "\\bstatic\\s*\\{", "->", "::", "\\w+Exact\\b",
        "\\bSystem\\.(?!arraycopy)", "\\bRandom\\b", "\\bThread\\b", "\\bObject\\b", "@Override"};
    private static final int MOST_LINES = 60;
    private static final int MOST_PARAMETERS = 7;
    private static final int MOST_CLASSES = 12;

    public static void main(String[] args) throws Exception {
        Check check = new Check();
        String text = withoutComments(Files.readString(SOURCE));
        for (String word : LEFT_OUT) {
            check.holds("left out: " + word, !Pattern.compile(word).matcher(text).find());
        }
        Matcher imports = Pattern.compile("import ([\\w.*]+);").matcher(text);
        while (imports.find()) {
            check.holds(imports.group(), List.of("java.util.Arrays", "java.util.ArrayList", "java.util.List",
                    "java.util.Iterator").contains(imports.group(1)));
        }
        Matcher statics = Pattern.compile("(?m)^ +(?:\\w+ )*static (?!final)[^(=;{]*[=;]").matcher(text);
        check.holds("a static field that is not final", !statics.find());
        check.holds("too many classes", Pattern.compile("\\bclass \\w+ ").matcher(text).results().count() <= MOST_CLASSES);
        methods(check, text);
        check.finish();
    }

    private static String withoutComments(String text) {
        return text.replaceAll("(?s)/\\*.*?\\*/", "").replaceAll("//[^\n]*", "");
    }

    private static void methods(Check check, String text) {
        List<String> lines = new ArrayList<>(text.lines().toList());
        Pattern head = Pattern.compile("^( +)(?:\\w+ )*(?:\\w+(?:\\[\\])* )?(\\w+)\\(([^)]*)\\) \\{$");
        for (int at = 0; at < lines.size(); at++) {
            Matcher found = head.matcher(lines.get(at));
            if (found.matches() && !List.of("if", "for", "while", "switch").contains(found.group(2))) {
                int end = lines.subList(at, lines.size()).indexOf(found.group(1) + "}");
                check.holds(found.group(2) + " is short", end >= 0 && end <= MOST_LINES);
                check.holds(found.group(2) + " takes few parameters",
                        found.group(3).split(",").length <= MOST_PARAMETERS);
                for (String line : lines.subList(at, at + Math.max(end, 0))) {
                    check.holds(found.group(2) + " makes nothing", !line.contains("new "));
                }
            }
        }
    }
}
