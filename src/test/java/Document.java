import java.io.IOException;
import java.nio.file.Files;
import java.nio.file.Path;
import java.util.ArrayList;
import java.util.LinkedHashMap;
import java.util.List;
import java.util.Map;
import java.util.regex.Matcher;
import java.util.regex.Pattern;

/** The document's words by its sections: "What it is", "Map", "Games", "Stone", "Acts", "Promise 1" to "Promise 37". */
final class Document {
    private final Map<String, StringBuilder> sections = new LinkedHashMap<>();
    private final Map<String, List<String>> thrown = new LinkedHashMap<>();

    Document(Path path) throws IOException {
        String section = "";
        for (String line : Files.readAllLines(path)) {
            Matcher head = Pattern.compile("## (Promise \\d+|[\\w ]+).*|\\d\\. (\\w+)").matcher(line);
            if (head.matches()) {
                section = head.group(1) == null ? head.group(2) : head.group(1);
            }
            String text = plain(line);
            sections.computeIfAbsent(section, k -> new StringBuilder()).append(text).append(' ');
            if (text.startsWith("Throws ")) {
                thrown.computeIfAbsent(section, k -> new ArrayList<>()).add(text);
            }
        }
    }

    boolean says(String section, String words) {
        StringBuilder text = sections.get(section);
        return text != null && plain(text.toString()).contains(plain(words));
    }

    /** Each sentence by which a section names an exception. */
    Map<String, List<String>> thrown() {
        return thrown;
    }

    static String plain(String words) {
        return words.replace("`", "").replaceAll("\\s+", " ").trim();
    }
}
