import java.io.IOException;
import java.lang.reflect.InvocationTargetException;
import java.lang.reflect.Method;
import java.lang.reflect.Modifier;
import java.nio.file.Files;
import java.nio.file.Path;
import java.util.HashMap;
import java.util.List;
import java.util.Map;
import java.util.Set;
import java.util.TreeSet;
import java.util.regex.Matcher;
import java.util.regex.Pattern;

/** README.md, in the folder from which the test is run: its example answers what it says, its table has every call. */
public final class PromiseShelvesReadmeTest {
    private static final String FIRST_LINE = "PromiseShelves machine = new PromiseShelves();";
    private static final Pattern EXAMPLE = Pattern.compile("(?:int (\\w+) = )?machine\\.(\\w+)\\(([^()]*)\\); +// ([^ :]+).*");
    private static final Pattern ROW = Pattern.compile("\\| `(\\w+)\\((.*)\\)` \\| .+ \\|(.*)\\|");
    private static final Map<String, String> SHORT = Map.of(
            "IndexOutOfBoundsException", "index",
            "IllegalArgumentException", "argument",
            "IllegalStateException", "state");

    private static int wrong = 0;

    private static void check(boolean holds, String fault) {
        if (!holds) {
            wrong++;
            System.out.println(fault);
        }
    }

    private static int partsOf(String list) {
        return list.isBlank() ? 0 : list.split(",").length;
    }

    private static Map<String, Method> calls() {
        Map<String, Method> found = new HashMap<>();
        for (Method method : PromiseShelves.class.getDeclaredMethods()) {
            if (Modifier.isPublic(method.getModifiers())) {
                found.put(method.getName(), method);
            }
        }
        return found;
    }

    private static String throwsOf(Method method) {
        StringBuilder text = new StringBuilder();
        for (Class<?> thrown : method.getExceptionTypes()) {
            text.append(text.length() == 0 ? "" : ", ").append(SHORT.get(thrown.getSimpleName()));
        }
        return text.toString();
    }

    private static void checkTable(List<String> lines, Map<String, Method> calls) {
        Set<String> missing = new TreeSet<>(calls.keySet());
        for (String line : lines) {
            Matcher row = ROW.matcher(line);
            if (row.matches()) {
                Method call = calls.get(row.group(1));
                check(missing.remove(row.group(1)), "no call, or a second row for it: " + line);
                check(call != null && call.getParameterCount() == partsOf(row.group(2)), "wrong arguments: " + line);
                check(call != null && throwsOf(call).equals(row.group(3).trim()), "wrong exceptions: " + line);
            }
        }
        check(missing.isEmpty(), "calls without a row: " + missing);
    }

    private static Object[] argumentsOf(String list, Map<String, Object> variables) {
        Object[] arguments = new Object[partsOf(list)];
        for (int i = 0; i < arguments.length; i++) {
            String word = list.split(",")[i].trim();
            arguments[i] = variables.containsKey(word) ? variables.get(word) : Integer.valueOf(word);
        }
        return arguments;
    }

    private static void checkExample(List<String> lines, Map<String, Method> calls)
            throws IllegalAccessException, InvocationTargetException {
        int at = lines.indexOf(FIRST_LINE);
        check(at >= 0, "there is no example");
        PromiseShelves machine = new PromiseShelves();
        Map<String, Object> variables = new HashMap<>();
        int made = 0;
        for (int i = at + 1; at >= 0 && i < lines.size() && !lines.get(i).startsWith("```"); i++) {
            Matcher example = EXAMPLE.matcher(lines.get(i));
            if (!example.matches() || !calls.containsKey(example.group(2))) {
                check(false, "not a call with its answer: " + lines.get(i));
                continue;
            }
            Object got = calls.get(example.group(2)).invoke(machine, argumentsOf(example.group(3), variables));
            check(String.valueOf(got).equals(example.group(4)), "answered " + got + ": " + lines.get(i));
            if (example.group(1) != null) {
                variables.put(example.group(1), got);
            }
            made++;
        }
        check(made > 0, "the example has no calls");
    }

    private static void checkTests(String text) throws IOException {
        check(text.contains(".ci/run"), "how to run the tests is not told");
        try (var files = Files.list(Path.of("src/test/java"))) {
            for (Path file : files.toList()) {
                String name = file.getFileName().toString().replace(".java", "");
                check(text.contains("- `" + name + "`: "), "the test " + name + " is not told");
            }
        }
    }

    public static void main(String[] args) throws IOException, IllegalAccessException, InvocationTargetException {
        List<String> lines = Files.readAllLines(Path.of("README.md"));
        checkTable(lines, calls());
        checkExample(lines, calls());
        checkTests(String.join("\n", lines));
        System.out.println(wrong == 0 ? "README.md is as due" : wrong + " faults of README.md");
        if (wrong != 0) {
            System.exit(1);
        }
    }
}
