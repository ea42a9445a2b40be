import java.io.IOException;
import java.nio.file.Files;
import java.nio.file.Path;
import java.util.ArrayList;
import java.util.List;
import java.util.regex.Matcher;
import java.util.regex.Pattern;

/** Rules of LANGUAGE.md that can be seen from the program's text, and what its calls make. */
public final class LanguageTest {
    private static final Path PROGRAM = Path.of("src/main/java/RuinViews.java");

    // Each pattern stands for a rule; none of them may be found behind the comments and texts.
    private static final String[][] BANNED = {
        {"1", "^\\s*(package|import)\\b"},
        {"2", "->|::"},
        {"4", "Exact\\b|String\\.format|stream\\(|\\bSystem\\.(?!arraycopy)"},
        {"5", "\\bstatic\\s*\\{|\\bstatic (?!final)(int|long|boolean)(\\[\\])? \\w+\\s*[=;]"},
        {"6", "\\b(try|catch|finally|synchronized|assert|instanceof)\\b"},
        {"6", "throw (?!new (IllegalStateException|IllegalArgumentException|IndexOutOfBoundsException)\\(\"\"\\);)"},
        {"9", "\\bwhile\\b|\\bfor \\(;;"},
        {"13", "Random|currentTimeMillis|nanoTime|Thread|java\\."}};

    private static final List<String> faults = new ArrayList<>();

    public static void main(String[] args) throws IOException {
        String text = Files.readString(PROGRAM);
        for (int i = 0; i < text.length(); i++) {
            char c = text.charAt(i);
            if (c > 126 || (c < 32 && c != '\n')) {
                faults.add("rule 3: the sign " + (int) c + " at " + i);
            }
        }
        String code = withoutCommentsAndTexts(text);
        for (String[] rule : BANNED) {
            Matcher m = Pattern.compile(rule[1], Pattern.MULTILINE).matcher(code);
            while (m.find()) {
                faults.add("rule " + rule[0] + ": " + m.group());
            }
        }
        callsMakeNothing();
        for (String fault : faults) {
            System.out.println(fault);
        }
        if (!faults.isEmpty()) {
            System.exit(1);
        }
        System.out.println("the language is kept to");
    }

    private static String withoutCommentsAndTexts(String text) {
        return text.replaceAll("\"[^\"\n]*\"", "\"\"")
            .replaceAll("(?s)/\\*.*?\\*/", "").replaceAll("//[^\n]*", "");
    }

    /** Objects stand in constructors and in throws alone, so that a run's room does not fill up. */
    private static void callsMakeNothing() throws IOException {
        String code = withoutCommentsAndTexts(Files.readString(PROGRAM));
        for (String line : code.split("\n")) {
            boolean makes = line.contains("new ") || line.contains(".clone(");
            boolean isField = line.matches("\\s*(private )?final [\\w\\[\\]]+ \\w+ = new .*;");
            if (makes && !isField && !line.trim().startsWith("throw new ")) {
                faults.add("rule 12: a call makes something: " + line.trim());
            }
        }
    }
}
