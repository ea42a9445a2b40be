import java.io.IOException;
import java.lang.reflect.InvocationTargetException;
import java.lang.reflect.Method;
import java.lang.reflect.Modifier;
import java.nio.file.Files;
import java.nio.file.Path;
import java.util.ArrayList;
import java.util.Arrays;
import java.util.HashMap;
import java.util.HashSet;
import java.util.List;
import java.util.Map;
import java.util.Set;
import java.util.regex.Matcher;
import java.util.regex.Pattern;

/** The runs of calls in README.md answer what stands behind them; they leave out no call, and the file no test. */
public final class ReadmeTest extends Checks {
    private static final Path README = Path.of("README.md");
    private static final Path TESTS = Path.of("src/test/java");
    private static final String NEW_MACHINE = "RuinViews machine = new RuinViews();";
    private static final String THROWS = "throws ";

    // A call, a name for its answer perhaps, and behind it the answer, before a colon if more is said.
    private static final Pattern CALL =
        Pattern.compile("(?:int (\\w+) = )?machine\\.(\\w+)\\(([^)]*)\\);\\s+// ([^:]+)(?::.*)?");

    private static final Map<String, Integer> named = new HashMap<>();
    private static final Set<String> called = new HashSet<>();
    private static RuinViews machine = null;

    public static void main(String[] args) throws IOException {
        String text = Files.readString(README);
        List<String> lines = javaLines(text);
        due("whether there is a run of calls", lines.contains(NEW_MACHINE), true);
        for (String line : lines) {
            if (!line.isEmpty() && !line.startsWith("//")) {
                follow(line);
            }
        }
        for (Method m : RuinViews.class.getDeclaredMethods()) {
            if (Modifier.isPublic(m.getModifiers())) {
                due("whether the run calls " + m.getName(), called.contains(m.getName()), true);
            }
        }
        tellsHowToCompileAndTest(text);
        end("the README says what is so");
    }

    private static List<String> javaLines(String text) {
        List<String> lines = new ArrayList<>();
        boolean inside = false;
        for (String line : text.split("\n")) {
            if (line.startsWith("```")) {
                inside = line.equals("```java");
            } else if (inside) {
                lines.add(line.trim());
            }
        }
        return lines;
    }

    private static void follow(String line) {
        if (line.equals(NEW_MACHINE)) {
            machine = new RuinViews();
            return;
        }
        Matcher m = CALL.matcher(line);
        if (!m.matches() || machine == null) {
            due("whether it can be read: " + line, false, true);
            return;
        }
        String want = m.group(4).trim();
        long before = machine.digest();
        String got = answer(m.group(2), m.group(3), m.group(1));
        due(line, got, want);
        if (want.startsWith(THROWS)) {
            due("what is behind: " + line, machine.digest(), before);
        }
    }

    private static String answer(String name, String arguments, String nameOfAnswer) {
        called.add(name);
        Object[] values = values(arguments);
        Class<?>[] types = new Class<?>[values.length];
        Arrays.fill(types, int.class);
        try {
            Object answer = RuinViews.class.getMethod(name, types).invoke(machine, values);
            if (nameOfAnswer != null) {
                named.put(nameOfAnswer, (Integer) answer);
            }
            return String.valueOf(answer);
        } catch (InvocationTargetException e) {
            return THROWS + e.getCause().getClass().getSimpleName();
        } catch (ReflectiveOperationException e) {
            return "no call of the face";
        }
    }

    private static Object[] values(String arguments) {
        if (arguments.isEmpty()) {
            return new Object[0];
        }
        String[] parts = arguments.split(", ");
        Object[] values = new Object[parts.length];
        for (int i = 0; i < parts.length; i++) {
            Integer value = named.get(parts[i]);
            values[i] = value != null ? value : Integer.valueOf(parts[i]);
        }
        return values;
    }

    private static void tellsHowToCompileAndTest(String text) throws IOException {
        due("whether it says how to compile",
            text.contains("javac -d out src/main/java/RuinViews.java Yours.java"), true);
        due("whether it says how to test", text.contains("\n    .ci/run\n"), true);
        try (var files = Files.list(TESTS)) {
            for (Path file : files.toList()) {
                String name = file.getFileName().toString().replace(".java", "");
                due("whether it tells of " + name, text.contains("- `" + name + "`: "), true);
            }
        }
    }
}
