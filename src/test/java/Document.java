import java.io.IOException;
import java.io.UncheckedIOException;
import java.nio.file.Files;
import java.nio.file.Path;
import java.util.LinkedHashMap;
import java.util.Map;

/** The document's own words by its parts, so that a test can name the sentence that it is for. */
final class Document {
    private static final Path FILE = Path.of("../shared/DOC.md");
    private static final Map<String, String> PARTS = read();

    private Document() {
    }

    /** By "What it is", "Terms", "Part 2", "Part 3" and "Promise 1" to "Promise 36". */
    static Map<String, String> parts() {
        return PARTS;
    }

    static boolean says(String part, String words) {
        return PARTS.getOrDefault(part, "").contains(words);
    }

    private static Map<String, String> read() {
        Map<String, StringBuilder> read = new LinkedHashMap<>();
        String part = "";
        try {
            for (String line : Files.readAllLines(FILE)) {
                part = partOf(line, part);
                boolean isText = !line.startsWith("#") && !line.startsWith("```");
                read.computeIfAbsent(part, p -> new StringBuilder()).append(isText ? line : "").append(' ');
            }
        } catch (IOException e) {
            throw new UncheckedIOException(e);
        }
        Map<String, String> parts = new LinkedHashMap<>();
        read.forEach((name, text) -> parts.put(name, text.toString().replaceAll("\\s+", " ")));
        return parts;
    }

    private static String partOf(String line, String before) {
        if (line.startsWith("## ")) {
            return line.substring(3).replaceAll(":.*", "");
        }
        return line.matches("==== \\d\\..*") ? "Part " + line.charAt(5) : before;
    }
}
