import java.io.IOException;
import java.nio.file.Files;
import java.nio.file.Path;
import java.util.List;
import java.util.regex.Pattern;

/** The rules of LANGUAGE.md that can be seen line by line; run from the folder of the project. */
final class LanguageTest {
    private static final int LONGEST_METHOD = 60;

    public static void main(String[] args) throws IOException {
        List<String> lines = Files.readAllLines(Path.of("src/main/java/ShadowWarden.java"));
        for (int i = 0; i < lines.size(); i++) {
            look(i + 1, lines.get(i).replaceAll("/\\*\\*.*|^ \\*.*", ""));
        }
        methodsAreShort(lines);
        Check.finish();
    }

    private static void look(int number, String line) {
        String where = "line " + number + ": " + line.trim();
        Check.same(where + " (rule 4)", has(line, "^import (?!java\\.util\\.NoSuchElementException;)"), 0);
        Check.same(where + " (rule 2)", has(line, "->|::"), 0);
        Check.same(where + " (rule 5)", has(line, "\\bstatic (?!final|boolean|int|void)"), 0);
        Check.same(where + " (rule 6)", has(line, "\\b(try|catch|finally|synchronized|assert|getMessage)\\b"), 0);
        Check.same(where + " (rule 9)", has(line, "while \\(true\\)|for \\(;;\\)"), 0);
        // Fields are final here, so what is not thrown is made once, in a constructor.
        Check.same(where + " (rule 12)", has(line, "(?<!throw|^ {8}[a-zA-Z]{1,20} =|^ {12}[a-zA-Z]{1,20} =) new "), 0);
    }

    private static int has(String line, String pattern) {
        return Pattern.compile(pattern).matcher(line).find() ? 1 : 0;
    }

    private static void methodsAreShort(List<String> lines) {
        int began = 0;
        for (int i = 0; i < lines.size(); i++) {
            if (has(lines.get(i), "^ {4}( {4})?[a-zA-Z].*\\).* \\{$") == 1) {
                began = i;
            }
            if (has(lines.get(i), "^ {4}( {4})?\\}$") == 1 && began > 0) {
                int length = i - began;
                Check.same("method at line " + (began + 1) + " is short", length <= LONGEST_METHOD ? 1 : 0, 1);
                began = 0;
            }
        }
    }
}
