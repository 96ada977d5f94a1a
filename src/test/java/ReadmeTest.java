import java.io.IOException;
import java.lang.reflect.InvocationTargetException;
import java.lang.reflect.Method;
import java.lang.reflect.Modifier;
import java.nio.charset.StandardCharsets;
import java.nio.file.Files;
import java.nio.file.Path;
import java.util.Arrays;
import java.util.HashMap;
import java.util.List;
import java.util.Map;
import java.util.TreeMap;
import java.util.regex.Matcher;
import java.util.regex.Pattern;
import java.util.stream.Collectors;

/** README.md says what the class does: its example's answers, its calls and what they throw. */
public final class ReadmeTest {
    private static final Path README = Path.of("README.md");
    private static final String FIRST = "ShiftRing ring = new ShiftRing();";

    /** A call in the example; behind it stands its answer, or what it throws. */
    private static final Pattern CALL = Pattern.compile(
            "(?:int (\\w+) = )?ring\\.(\\w+)\\(([^)]*)\\); +// (-?\\d+|throws \\w+)\\b.*");
    /** A row of the table of calls: the call, its answer, what it throws. */
    private static final Pattern ROW = Pattern.compile("\\| `(\\w+)\\(([^)]*)\\)` \\| (.+) \\| ([\\w, ]+) \\|");

    private static int wrong;
    private static int checks;

    private static void same(Object want, Object got, String where) {
        checks++;
        if (!want.equals(got)) {
            wrong++;
            System.out.println(where + ": README.md has " + got + ", due is " + want);
        }
    }

    private static Map<String, Method> face() {
        Map<String, Method> face = new TreeMap<>();
        for (Method m : ShiftRing.class.getDeclaredMethods()) {
            if (Modifier.isPublic(m.getModifiers())) {
                face.put(m.getName(), m);
            }
        }
        return face;
    }

    // ---- the example ----

    private static Object argument(String text, Map<String, Integer> named) {
        if (text.equals("true") || text.equals("false")) {
            return text.equals("true");
        }
        return named.containsKey(text) ? named.get(text) : Integer.valueOf(text);
    }

    private static String told(ShiftRing ring, Method method, Object[] arguments) {
        try {
            return method.invoke(ring, arguments).toString();
        } catch (InvocationTargetException e) {
            return "throws " + e.getCause().getClass().getSimpleName();
        } catch (IllegalAccessException e) {
            return e.toString();
        }
    }

    private static void example(List<String> lines) {
        ShiftRing ring = new ShiftRing();
        Map<String, Integer> named = new HashMap<>();
        int calls = 0;
        int first = lines.indexOf(FIRST);
        same("```java", first > 0 ? lines.get(first - 1) : "nothing", "the line ahead of the example");
        for (int k = first + 1; k < lines.size() && !lines.get(k).equals("```"); k++) {
            Matcher call = CALL.matcher(lines.get(k));
            if (call.matches()) {
                Object[] arguments = call.group(3).isEmpty() ? new Object[0]
                        : Arrays.stream(call.group(3).split(", ")).map(a -> argument(a, named)).toArray();
                String answer = told(ring, face().get(call.group(2)), arguments);
                same(answer, call.group(4), lines.get(k));
                if (call.group(1) != null) {
                    named.put(call.group(1), Integer.valueOf(answer));
                }
                calls++;
            } else {
                same(true, lines.get(k).isEmpty() || lines.get(k).startsWith("// "), "a line that is no call: " + lines.get(k));
            }
        }
        same(true, calls >= 40 && calls <= 512, calls + " calls in the example");
    }

    // ---- the table of calls ----

    private static void calls(List<String> lines) {
        Map<String, Method> face = face();
        Map<String, Integer> rows = new TreeMap<>();
        for (String line : lines) {
            Matcher row = ROW.matcher(line);
            if (row.matches() && face.containsKey(row.group(1))) {
                Method method = face.get(row.group(1));
                rows.merge(row.group(1), 1, Integer::sum);
                int parameters = row.group(2).isEmpty() ? 0 : row.group(2).split(", ").length;
                same(method.getParameterCount(), parameters, line);
                same(shortNames(method), row.group(4), line);
            }
        }
        for (String name : face.keySet()) {
            same(1, rows.getOrDefault(name, 0), "rows for " + name);
        }
    }

    /** Index for IndexOutOfBoundsException, and so on. */
    private static String shortNames(Method method) {
        if (method.getExceptionTypes().length == 0) {
            return "nothing";
        }
        return Arrays.stream(method.getExceptionTypes()).map(Class::getSimpleName)
                .map(name -> name.startsWith("Index") ? "Index" : name.startsWith("NoSuch") ? "Element"
                        : name.replaceAll("Illegal|Exception", ""))
                .collect(Collectors.joining(", "));
    }

    public static void main(String[] args) throws IOException {
        List<String> lines = Files.readAllLines(README, StandardCharsets.UTF_8);
        example(lines);
        calls(lines);
        System.out.println(checks + " checks, " + wrong + " not as due");
        if (wrong != 0) {
            System.exit(1);
        }
    }
}
