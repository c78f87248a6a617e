import java.nio.file.Files;
import java.nio.file.Path;
import java.util.ArrayList;
import java.util.List;
import java.util.Map;
import java.util.Set;
import java.util.regex.Matcher;
import java.util.regex.Pattern;

/** Rules of LANGUAGE.md that can be seen in the text of the class. */
public final class LanguageTest {

    private static final Path SOURCE = Path.of("src/main/java/WeighGates.java");
    private static final String[] LEFT_OUT = {
        "\\bthrow\\b", "\\bthrows\\b", "\\btry\\b", "\\bcatch\\b", "\\bassert\\b", "\\bsynchronized\\b",
        "\\bpackage\\b", "\\bvolatile\\b", "\\bnative\\b", "\\bstatic\\s*\\{", "->", "::", "\\w+Exact\\b",
        "\\bRandom\\b", "\\bThread\\b", "\\bObject\\b", "@Override"};
    /** What may be called of these; for Math, Integer and Long LANGUAGE.md lists no end, and this is part of it. */
    private static final Pattern LIBRARY = Pattern.compile("\\b(System|Arrays|Math|Integer|Long)\\.(\\w+)");
    private static final Map<String, Set<String>> LISTED = Map.of(
            "System", Set.of("arraycopy"),
            "Arrays", Set.of("copyOf", "copyOfRange", "fill"),
            "Math", Set.of("abs", "max", "min", "floorDiv", "floorMod"),
            "Integer", Set.of("MAX_VALUE", "MIN_VALUE", "bitCount", "numberOfTrailingZeros", "compare", "max", "min"),
            "Long", Set.of("MAX_VALUE", "MIN_VALUE", "bitCount", "numberOfTrailingZeros", "compare", "max", "min"));
    private static final int MOST_LINES = 60;
    private static final int MOST_PARAMETERS = 7;
    private static final int MOST_CLASSES = 12;

    public static void main(String[] args) throws Exception {
        Check check = new Check();
        String text = withoutComments(Files.readString(SOURCE));
        for (String word : LEFT_OUT) {
            check.holds("left out: " + word, !Pattern.compile(word).matcher(text).find());
        }
        imports(check, text);
        library(check, text);
        Matcher statics = Pattern.compile("(?m)^ +(?:\\w+ )*static (?!final)[^(=;{]*[=;]").matcher(text);
        check.holds("a static field that is not final", !statics.find());
        check.holds("too many classes", Pattern.compile("\\bclass \\w+ ").matcher(text).results().count() <= MOST_CLASSES);
        methods(check, text);
        check.finish();
    }

    private static void imports(Check check, String text) {
        Matcher imports = Pattern.compile("import ([\\w.*]+);").matcher(text);
        while (imports.find()) {
            check.holds(imports.group(), List.of("java.util.Arrays", "java.util.ArrayList", "java.util.List",
                    "java.util.Iterator").contains(imports.group(1)));
        }
    }

    private static void library(Check check, String text) {
        Matcher library = LIBRARY.matcher(text);
        while (library.find()) {
            check.holds("not listed: " + library.group(), LISTED.get(library.group(1)).contains(library.group(2)));
        }
    }

    private static String withoutComments(String text) {
        return text.replaceAll("(?s)/\\*.*?\\*/", "").replaceAll("//[^\n]*", "");
    }

    private static void methods(Check check, String text) {
        List<String> lines = new ArrayList<>(text.lines().toList());
        Pattern head = Pattern.compile("^( +)(?:\\w+ )*(?:\\w+(?:\\[\\])* )?(\\w+)\\(([^)]*)\\) \\{$");
        for (int at = 0; at < lines.size(); at++) {
            Matcher found = head.matcher(lines.get(at));
            if (found.matches() && !List.of("if", "for", "while", "switch").contains(found.group(2))) {
                int end = lines.subList(at, lines.size()).indexOf(found.group(1) + "}");
                check.holds(found.group(2) + " is short", end >= 0 && end <= MOST_LINES);
                check.holds(found.group(2) + " takes few parameters",
                        found.group(3).split(",").length <= MOST_PARAMETERS);
                for (String line : lines.subList(at, at + Math.max(end, 0))) {
                    check.holds(found.group(2) + " makes nothing", !line.contains("new "));
                }
            }
        }
    }
}
