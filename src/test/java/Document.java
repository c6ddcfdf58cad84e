import java.io.IOException;
import java.io.UncheckedIOException;
import java.nio.file.Files;
import java.nio.file.Path;
import java.util.ArrayList;
import java.util.LinkedHashMap;
import java.util.List;
import java.util.Map;

/** The text of ../shared/DOC.md, section by section, and which of its words are the name of a test. */
final class Document {
    private static final Path PLACE = Path.of("../shared/DOC.md");

    private final Map<String, String> texts = new LinkedHashMap<>();
    private final Map<String, boolean[]> named = new LinkedHashMap<>();

    Document() {
        String title = "";
        for (String line : lines()) {
            if (line.startsWith("#")) {
                title = line.replaceAll("^#+ ", "").trim();
                texts.put(title, "");
            } else if (!line.startsWith("```")) {
                texts.merge(title, line, (text, more) -> (text + " " + more).replaceAll("\\s+", " ").trim());
            }
        }
        texts.forEach((section, text) -> named.put(section, new boolean[text.length()]));
    }

    private static List<String> lines() {
        try {
            return Files.readAllLines(PLACE);
        } catch (IOException e) {
            throw new UncheckedIOException(e);
        }
    }

    List<String> sections() {
        return new ArrayList<>(texts.keySet());
    }

    /** False if the section has no such words. */
    boolean name(String section, String words) {
        String text = texts.getOrDefault(section, "");
        int at = text.indexOf(words);
        if (at < 0 || words.isEmpty()) {
            return false;
        }
        for (; at >= 0; at = text.indexOf(words, at + 1)) {
            java.util.Arrays.fill(named.get(section), at, at + words.length(), true);
        }
        return true;
    }

    /** The stretches of a section that are in no test's name. */
    List<String> unnamed(String section) {
        List<String> left = new ArrayList<>();
        StringBuilder stretch = new StringBuilder();
        String text = texts.get(section) + " ";
        for (int i = 0; i < text.length(); i++) {
            boolean end = i == text.length() - 1 || named.get(section)[i];
            if (!end) {
                stretch.append(text.charAt(i));
            } else if (stretch.toString().matches(".*[A-Za-z0-9].*")) {
                left.add(stretch.toString().trim());
                stretch.setLength(0);
            } else {
                stretch.setLength(0);
            }
        }
        return left;
    }
}
