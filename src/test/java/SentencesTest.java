import java.io.IOException;
import java.nio.file.DirectoryStream;
import java.nio.file.Files;
import java.nio.file.Path;
import java.util.ArrayList;
import java.util.BitSet;
import java.util.LinkedHashMap;
import java.util.List;
import java.util.Map;
import java.util.regex.Matcher;
import java.util.regex.Pattern;

/** Each place of the document that names a bound, a FAULT, a wrap-around or a refusal is named by some test. */
public final class SentencesTest {
    private static final Due DUE = new Due();
    private static final Path TESTS = Path.of("src/test/java");
    /** Words by which a sentence is known as one about an edge. */
    private static final Pattern EDGE = Pattern.compile("NONE|false|-[1-9]\\d*|no such|stays|empty|at most|at first"
        + "|\\d+ (?:on|to \\d+)|one to five|not so many|[Nn]one\\b|[Nn]o SLIDES|not above|more than|modulo|divided by 0"
        + "|REFUSED|refused|twice|are there|[Ww]ith(?:out| no)\\b|beyond|lowest|least\\b|bounds?\\b|FAULTS?|fifth|sixth"
        + "|seventh|17th|above 31|no more|left out|not told|is over|32 bits|below 0|in place|one that is not"
        + "|nothing is changed");
    private static final Pattern NAMED = Pattern.compile("\\.by\\((TERMS|\"[^\"]*\"),\\s*"
        + "(\"[^\"]*\"(?:\\s*\\+\\s*\"[^\"]*\")*)\\)");
    private static final String BETWEEN_LINES = "\"\\s*\\+\\s*\"";

    public static void main(String[] args) throws IOException {
        Map<String, BitSet> named = new LinkedHashMap<>();
        for (String source : sources()) {
            Matcher m = NAMED.matcher(source);
            while (m.find()) {
                String part = m.group(1).equals("TERMS") ? "Terms" : m.group(1).replace("\"", "");
                String words = m.group(2).replaceAll(BETWEEN_LINES, "").replace("\"", "");
                mark(named.computeIfAbsent(part, p -> new BitSet()), part, words);
            }
        }
        Document.parts().forEach((part, text) -> {
            if (part.matches("Terms|Part \\d|Promise \\d+")) {
                DUE.is(part + " is named by a test", named.containsKey(part), true);
                edges(part, text, named.getOrDefault(part, new BitSet()));
            }
        });
        DUE.end();
    }

    private static List<String> sources() throws IOException {
        List<String> texts = new ArrayList<>();
        try (DirectoryStream<Path> files = Files.newDirectoryStream(TESTS, "*Test.java")) {
            for (Path file : files) {
                texts.add(Files.readString(file));
            }
        }
        return texts;
    }

    private static void mark(BitSet places, String part, String words) {
        String text = Document.parts().getOrDefault(part, "");
        for (int at = text.indexOf(words); at >= 0; at = text.indexOf(words, at + 1)) {
            places.set(at, at + words.length());
        }
    }

    private static void edges(String part, String text, BitSet named) {
        Matcher m = EDGE.matcher(text);
        while (m.find()) {
            String around = text.substring(Math.max(0, m.start() - 40), Math.min(text.length(), m.end() + 40));
            DUE.is(part + ": '" + m.group() + "' in '" + around + "' is named by a test", named.get(m.start()), true);
        }
    }
}
