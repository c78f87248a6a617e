import java.lang.reflect.Method;
import java.lang.reflect.Modifier;
import java.nio.file.Files;
import java.nio.file.Path;
import java.util.ArrayList;
import java.util.List;
import java.util.Map;
import java.util.Set;
import java.util.TreeSet;
import java.util.regex.Matcher;
import java.util.regex.Pattern;

/** The calls that README.md shows answer what it says, and every call of the class is among them. */
public final class ReadmeTest {

    private static final Pattern CALL = Pattern.compile("x\\.(\\w+)\\(([^)]*)\\); +// (-?\\w+)(?::.*)?");
    private static final Map<String, Long> NAMES =
            Map.of("UNKNOWN", -1L, "OUTSIDE", -2L, "STATE", -3L, "FULL", -4L, "NONE", -1000000L);

    private final Check check = new Check();
    private final WeighGates x = new WeighGates();
    private final Set<String> shown = new TreeSet<>();

    public static void main(String[] args) throws Exception {
        ReadmeTest test = new ReadmeTest();
        for (String line : shownLines()) {
            test.tryLine(line);
        }
        for (Method method : callsOfClass()) {
            test.check.holds(method.getName() + " is not shown", test.shown.contains(method.getName()));
        }
        test.check.finish();
    }

    private static List<String> shownLines() throws Exception {
        String text = Files.readString(Path.of("README.md"));
        int start = text.indexOf("```java\n");
        int end = text.indexOf("```\n", start + 1);
        return start < 0 || end < 0 ? List.of() : text.substring(start, end).lines().skip(1).toList();
    }

    private static List<Method> callsOfClass() {
        List<Method> calls = new ArrayList<>();
        for (Method method : WeighGates.class.getDeclaredMethods()) {
            if (Modifier.isPublic(method.getModifiers())) {
                calls.add(method);
            }
        }
        return calls;
    }

    private void tryLine(String line) throws Exception {
        Matcher call = CALL.matcher(line);
        if (call.matches()) {
            shown.add(call.group(1));
            check.due(line, answer(call.group(1), call.group(2).split(", ")), number(call.group(3)));
        } else {
            check.holds("not a call with its answer: " + line, line.isEmpty() || line.startsWith("//")
                    || line.equals("WeighGates x = new WeighGates();"));
        }
    }

    private long answer(String name, String[] written) throws Exception {
        for (Method method : callsOfClass()) {
            if (method.getName().equals(name) && method.getParameterCount() == written.length) {
                Object[] arguments = new Object[written.length];
                for (int i = 0; i < written.length; i++) {
                    arguments[i] = argument(method.getParameterTypes()[i], written[i]);
                }
                return ((Number) method.invoke(x, arguments)).longValue();
            }
        }
        throw new IllegalStateException("there is no call " + name + " of " + written.length);
    }

    private static Object argument(Class<?> type, String written) {
        if (type == boolean.class) {
            return Boolean.valueOf(written);
        }
        long number = number(written.replace("WeighGates.", ""));
        if (type == long.class) {
            return number;
        }
        return (int) number;
    }

    private static long number(String written) {
        return NAMES.containsKey(written) ? NAMES.get(written) : Long.parseLong(written);
    }
}
