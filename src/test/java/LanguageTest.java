import java.io.IOException;
import java.lang.reflect.Constructor;
import java.lang.reflect.Field;
import java.lang.reflect.Method;
import java.lang.reflect.Modifier;
import java.nio.file.Files;
import java.nio.file.Path;
import java.util.ArrayList;
import java.util.List;
import java.util.regex.Matcher;
import java.util.regex.Pattern;

/** Rules of LANGUAGE.md that can be seen from the program's text, and what its calls make. */
public final class LanguageTest {
    private static final Path PROGRAM = Path.of("src/main/java/RuinViews.java");

    // Each pattern stands for a rule; none of them may be found behind the comments and texts.
    private static final String[][] BANNED = {
        {"1", "^\\s*(package|import)\\b"},
        {"2", "->|::"},
        {"4", "Exact\\b|String\\.format|stream\\(|\\bSystem\\.(?!arraycopy)"},
        {"5", "\\bstatic\\s*\\{|\\bstatic (?!final)(int|long|boolean)(\\[\\])? \\w+\\s*[=;]"},
        {"6", "\\b(try|catch|finally|synchronized|assert|instanceof)\\b"},
        {"6", "throw (?!new (IllegalStateException|IllegalArgumentException|IndexOutOfBoundsException)\\(\"\"\\);)"},
        {"9", "\\bwhile\\b|\\bfor \\(;;"},
        {"10", "\"\"\\s*\\+|\\+\\s*\"\""},
        {"13", "Random|currentTimeMillis|nanoTime|Thread|java\\."}};

    private static final List<String> faults = new ArrayList<>();

    public static void main(String[] args) throws IOException {
        String text = Files.readString(PROGRAM);
        for (int i = 0; i < text.length(); i++) {
            char c = text.charAt(i);
            if (c > 126 || (c < 32 && c != '\n')) {
                faults.add("rule 3: the sign " + (int) c + " at " + i);
            }
        }
        String code = withoutCommentsAndTexts(text);
        for (String[] rule : BANNED) {
            Matcher m = Pattern.compile(rule[1], Pattern.MULTILINE).matcher(code);
            while (m.find()) {
                faults.add("rule " + rule[0] + ": " + m.group());
            }
        }
        callsMakeNothing();
        methodsAreShort(code);
        classesAreSmall();
        for (String fault : faults) {
            System.out.println(fault);
        }
        if (!faults.isEmpty()) {
            System.exit(1);
        }
        System.out.println("the language is kept to");
    }

    private static String withoutCommentsAndTexts(String text) {
        return text.replaceAll("\"[^\"\n]*\"", "\"\"")
            .replaceAll("(?s)/\\*.*?\\*/", "").replaceAll("//[^\n]*", "");
    }

    /** Objects stand in constructors and in throws alone, so that a run's room does not fill up. */
    private static void callsMakeNothing() throws IOException {
        String code = withoutCommentsAndTexts(Files.readString(PROGRAM));
        for (String line : code.split("\n")) {
            boolean makes = line.contains("new ") || line.contains(".clone(");
            boolean isField = line.matches("\\s*(private )?final [\\w\\[\\]]+ \\w+ = new .*;");
            if (makes && !isField && !line.trim().startsWith("throw new ")) {
                faults.add("rule 12: a call makes something: " + line.trim());
            }
        }
    }

    /** From each line that a method could start with to the brace that ends it. */
    private static void methodsAreShort(String code) {
        String[] lines = code.split("\n");
        for (String indent : new String[] {"    ", "        "}) {
            int start = -1;
            for (int i = 0; i < lines.length; i++) {
                if (start < 0 && lines[i].matches(indent + "\\w.*\\(.*[^;]")) {
                    start = i;
                }
                if (start >= 0 && lines[i].equals(indent + "}")) {
                    if (i - start + 1 > 60) {
                        faults.add("rule 11: longer than 60 lines: " + lines[start].trim());
                    }
                    start = -1;
                }
            }
        }
    }

    private static void classesAreSmall() {
        List<Class<?>> classes = new ArrayList<>();
        classes.add(RuinViews.class);
        for (int i = 0; i < classes.size(); i++) {
            classes.addAll(List.of(classes.get(i).getDeclaredClasses()));
        }
        if (classes.size() > 12) {
            faults.add("rule 11: " + classes.size() + " classes");
        }
        for (Class<?> c : classes) {
            int fields = 0;
            for (Field f : c.getDeclaredFields()) {
                fields += Modifier.isStatic(f.getModifiers()) ? 0 : 1;
            }
            if (fields > 20) {
                faults.add("rule 11: " + fields + " fields in " + c.getName());
            }
            for (Method m : c.getDeclaredMethods()) {
                demandFewParameters(m.getParameterCount(), m.getName());
            }
            for (Constructor<?> made : c.getDeclaredConstructors()) {
                demandFewParameters(made.getParameterCount(), made.getName());
            }
        }
    }

    private static void demandFewParameters(int parameters, String of) {
        if (parameters > 7) {
            faults.add("rule 11: " + parameters + " parameters of " + of);
        }
    }
}
