import java.io.IOException;
import java.lang.reflect.InvocationTargetException;
import java.lang.reflect.Method;
import java.lang.reflect.Modifier;
import java.nio.file.Files;
import java.nio.file.Path;
import java.util.ArrayList;
import java.util.List;
import java.util.Set;
import java.util.TreeSet;
import java.util.regex.Matcher;
import java.util.regex.Pattern;
import java.util.stream.Stream;

/** Makes the calls of README.md and looks at what it says of them, of all calls and of the tests. */
public final class ReadmeTest {
    private static final Checks CHECKS = new Checks("ReadmeTest");
    private static final Pattern MADE = Pattern.compile("CoverRows rows = new CoverRows\\((\\d), (\\d)\\);.*");
    private static final Pattern CALL = Pattern.compile("rows\\.(\\w+)\\((.*?)\\);\\s+// (throws )?(-?\\w+)(:.*|,.*| .*)?");
    private static final Pattern CALL_ROW = Pattern.compile("\\| `(\\w+)\\((.*?)\\)` \\|[^|]*\\|([^|]*)\\|");
    private static final Pattern TEST_ROW = Pattern.compile("\\| (\\w+Test) \\|.*");
    private static final Pattern EXCEPTION = Pattern.compile("`(\\w+Exception)`");

    public static void main(String[] args) throws IOException {
        List<String> lines = Files.readAllLines(Path.of("README.md"));
        example(lines);
        callRows(lines);
        testRows(lines);
        CHECKS.end();
    }

    private static void example(List<String> lines) {
        CoverRows rows = null;
        Set<String> called = new TreeSet<>();
        for (String line : linesOfJava(lines)) {
            Matcher made = MADE.matcher(line);
            Matcher call = CALL.matcher(line);
            if (made.matches()) {
                rows = new CoverRows(Integer.parseInt(made.group(1)), Integer.parseInt(made.group(2)));
            } else if (rows != null && call.matches()) {
                called.add(call.group(1));
                makeCall(rows, line, call);
            } else {
                CHECKS.same("a line of the example", "a call with its answer", line);
            }
        }
        CHECKS.same("calls of the example", String.join(" ", face()), String.join(" ", called));
    }

    private static List<String> linesOfJava(List<String> lines) {
        List<String> found = new ArrayList<>();
        boolean inside = false;
        for (String line : lines) {
            if (line.startsWith("```")) {
                inside = line.equals("```java");
            } else if (inside && !line.isBlank()) {
                found.add(line);
            }
        }
        return found;
    }

    private static void makeCall(CoverRows rows, String line, Matcher call) {
        Method method = method(call.group(1));
        if (method == null) {
            CHECKS.same(line, "a call of the face", "none");
            return;
        }
        String got = outcome(rows, method, call.group(2));
        String due = call.group(3) == null ? call.group(4) : "throws " + call.group(4);
        CHECKS.same(line, method.getReturnType() == void.class ? "null" : due, got);
    }

    private static String outcome(CoverRows rows, Method method, String arguments) {
        String[] texts = arguments.isEmpty() ? new String[0] : arguments.split(", ");
        Class<?>[] types = method.getParameterTypes();
        Object[] values = new Object[types.length];
        for (int i = 0; i < types.length && i < texts.length; i++) {
            values[i] = valueOf(types[i], texts[i]);
        }
        try {
            return String.valueOf(method.invoke(rows, values));
        } catch (InvocationTargetException e) {
            return "throws " + e.getCause().getClass().getSimpleName();
        } catch (IllegalAccessException e) {
            return "not public";
        }
    }

    private static Object valueOf(Class<?> type, String text) {
        if (type == boolean.class) {
            return Boolean.valueOf(text);
        }
        if (type == long.class) {
            return Long.valueOf(text);
        }
        return Integer.valueOf(text);
    }

    private static void callRows(List<String> lines) {
        Set<String> told = new TreeSet<>();
        for (String line : lines) {
            Matcher row = CALL_ROW.matcher(line);
            Method method = row.matches() ? method(row.group(1)) : null;
            if (method != null) {
                told.add(row.group(1));
                int arguments = row.group(2).isEmpty() ? 0 : row.group(2).split(", ").length;
                CHECKS.same("arguments of " + row.group(1), method.getParameterCount(), arguments);
                CHECKS.same("what " + row.group(1) + " throws", thrownBy(method), exceptionsOf(row.group(3)));
            }
        }
        CHECKS.same("calls in the table", String.join(" ", face()), String.join(" ", told));
    }

    private static String thrownBy(Method method) {
        StringBuilder text = new StringBuilder();
        for (Class<?> c : method.getExceptionTypes()) {
            text.append(c.getSimpleName()).append(' ');
        }
        return text.toString();
    }

    private static String exceptionsOf(String cell) {
        StringBuilder text = new StringBuilder();
        Matcher found = EXCEPTION.matcher(cell);
        while (found.find()) {
            text.append(found.group(1)).append(' ');
        }
        return text.toString();
    }

    private static void testRows(List<String> lines) throws IOException {
        Set<String> told = new TreeSet<>();
        for (String line : lines) {
            Matcher row = TEST_ROW.matcher(line);
            if (row.matches()) {
                told.add(row.group(1));
            }
        }
        Set<String> there = new TreeSet<>();
        try (Stream<Path> files = Files.list(Path.of("src/test/java"))) {
            for (Path file : files.toList()) {
                String name = file.getFileName().toString();
                if (name.endsWith("Test.java")) {
                    there.add(name.substring(0, name.length() - ".java".length()));
                }
            }
        }
        CHECKS.same("tests in the table", String.join(" ", there), String.join(" ", told));
    }

    private static Set<String> face() {
        Set<String> names = new TreeSet<>();
        for (Method m : CoverRows.class.getDeclaredMethods()) {
            if (Modifier.isPublic(m.getModifiers())) {
                names.add(m.getName());
            }
        }
        return names;
    }

    private static Method method(String name) {
        for (Method m : CoverRows.class.getDeclaredMethods()) {
            if (m.getName().equals(name) && Modifier.isPublic(m.getModifiers())) {
                return m;
            }
        }
        return null;
    }
}
