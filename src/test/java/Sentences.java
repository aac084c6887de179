import java.io.IOException;
import java.nio.file.Files;
import java.nio.file.Path;
import java.util.Arrays;
import java.util.LinkedHashMap;
import java.util.Map;

/** The document's text by sections, and which of its words a test has quoted. */
final class Sentences {
    private final Map<String, String> texts = new LinkedHashMap<>();
    private final Map<String, boolean[]> quoted = new LinkedHashMap<>();

    Sentences(Path document) throws IOException {
        String section = "";
        for (String line : Files.readAllLines(document)) {
            if (line.startsWith("#")) {
                section = line.replaceFirst("#+ ", "").replaceFirst(":.*", "");
            } else {
                texts.merge(section, line.strip() + " ", String::concat);
            }
        }
        texts.replaceAll((name, text) -> text.replaceAll("\\s+", " "));
        texts.forEach((name, text) -> quoted.put(name, new boolean[text.length()]));
    }

    /** Marks the words as quoted wherever the section says them; tells whether it does. */
    boolean quote(String section, String words) {
        String text = texts.getOrDefault(section, "");
        int at = text.indexOf(words);
        boolean found = at >= 0;
        while (at >= 0) {
            Arrays.fill(quoted.get(section), at, at + words.length(), true);
            at = text.indexOf(words, at + 1);
        }
        return found;
    }

    /** What a section says and no test has quoted; a text without letters and digits if all is quoted. */
    String rest(String section) {
        String text = texts.getOrDefault(section, "no section of this name");
        boolean[] marks = quoted.getOrDefault(section, new boolean[text.length()]);
        StringBuilder rest = new StringBuilder();
        for (int i = 0; i < text.length(); i++) {
            rest.append(marks[i] ? ' ' : text.charAt(i));
        }
        return rest.toString().replaceAll("\\s+", " ").strip();
    }
}
