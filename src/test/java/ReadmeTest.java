import java.io.File;
import java.lang.reflect.Method;
import java.lang.reflect.Modifier;
import java.nio.charset.StandardCharsets;
import java.nio.file.Files;
import java.nio.file.Path;
import java.util.List;
import java.util.Set;
import java.util.TreeSet;
import java.util.regex.Matcher;
import java.util.regex.Pattern;

/** README.md: its calls, made in its order, answer what stands behind them; no call and no test is left out. */
public final class ReadmeTest extends Checks {
    private static final Pattern CALL = Pattern.compile("asks\\.(\\w+)\\(([^)]*)\\);\\s+// (-?\\d+)\\b.*");
    private static final String NEW_OBJECT = "PostedAsks asks = new PostedAsks();";
    private static final Set<String> shown = new TreeSet<>();
    private static PostedAsks asks = null;

    public static void main(String[] args) throws Exception {
        List<String> lines = Files.readAllLines(Path.of("README.md"), StandardCharsets.UTF_8);
        about("README.md");
        examples(lines);
        everyCallIsShown();
        everyTestIsNamed(String.join("\n", lines));
        end("ReadmeTest");
    }

    private static void examples(List<String> lines) throws Exception {
        boolean inside = false;
        for (String line : lines) {
            if (line.startsWith("```")) {
                inside = line.equals("```java");
            } else if (inside && line.equals(NEW_OBJECT)) {
                asks = new PostedAsks();
            } else if (inside) {
                example(line);
            }
        }
    }

    private static void example(String line) throws Exception {
        Matcher call = CALL.matcher(line);
        if (!call.matches() || asks == null) {
            same("a line of an example", line, "a call of an object that was made, and its answer");
            return;
        }
        String[] numbers = call.group(2).isEmpty() ? new String[0] : call.group(2).split(", ");
        due(line, answer(call.group(1), numbers), Long.parseLong(call.group(3)));
        shown.add(call.group(1));
    }

    private static long answer(String name, String[] numbers) throws Exception {
        for (Method method : PostedAsks.class.getDeclaredMethods()) {
            if (isCall(method) && method.getName().equals(name)) {
                return ((Number) method.invoke(asks, arguments(method, numbers))).longValue();
            }
        }
        throw new IllegalStateException("there is no call " + name);
    }

    private static Object[] arguments(Method method, String[] numbers) {
        Class<?>[] types = method.getParameterTypes();
        due("numbers of " + method.getName(), numbers.length, types.length);
        Object[] arguments = new Object[types.length];
        for (int i = 0; i < types.length; i++) {
            long number = Long.decode(numbers[i].replace("L", ""));
            if (types[i] == long.class) {
                arguments[i] = number;
            } else {
                arguments[i] = Math.toIntExact(number);
            }
        }
        return arguments;
    }

    private static boolean isCall(Method method) {
        return Modifier.isPublic(method.getModifiers());
    }

    private static void everyCallIsShown() {
        Set<String> calls = new TreeSet<>();
        for (Method method : PostedAsks.class.getDeclaredMethods()) {
            if (isCall(method)) {
                calls.add(method.getName());
            }
        }
        same("calls shown", shown.toString(), calls.toString());
    }

    private static void everyTestIsNamed(String page) {
        File[] tests = new File("src/test/java").listFiles();
        due("there are tests", tests == null || tests.length == 0 ? 0 : 1, 1);
        for (File test : tests) {
            String name = test.getName().replace(".java", "");
            due(name + " is named", page.contains(name) ? 1 : 0, 1);
        }
    }
}
