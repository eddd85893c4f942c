import java.io.IOException;
import java.nio.file.Files;
import java.nio.file.Path;
import java.util.ArrayList;
import java.util.HashSet;
import java.util.List;
import java.util.Set;
import java.util.regex.Matcher;
import java.util.regex.Pattern;

/** What of LANGUAGE.md can be seen in the source itself. */
public final class LanguageTest {
    private static final Due DUE = new Due();

    public static void main(String[] args) throws IOException {
        Path file = Path.of("src/main/java/SlideNight.java");
        String source = Files.readString(file);
        String code = source.replaceAll("(?s)/\\*.*?\\*/", " ").replaceAll("//[^\n]*", " ");
        for (String word : new String[] {"throw", "throws", "try", "catch", "finally", "synchronized", "assert", "import",
            "package", "protected", "double", "float", "native", "volatile", "Exact", "hashCode", "record", "null\\)\\s*\\."}) {
            DUE.is("uses " + word, count(code, "\\b" + word + "\\b"), 0);
        }
        DUE.is("lambdas and references", count(code, "->|::"), 0);
        DUE.is("classes", count(code, "\\bclass \\w+") <= 12, true);
        DUE.is("classes inside are private, static and final", count(code, "\\bclass \\w+") - 1,
            count(code, "private static final class \\w+"));
        DUE.is("static fields that are not final", count(code, "\\bstatic (?!final)\\w+ \\w+( =|;)"), 0);
        DUE.is("signs beyond 127", source.chars().filter(c -> c > 127).count(), 0);
        methods(Files.readAllLines(file));
        names(code);
        DUE.end();
    }

    private static int count(String text, String pattern) {
        Matcher m = Pattern.compile(pattern).matcher(text);
        int found = 0;
        while (m.find()) {
            found++;
        }
        return found;
    }

    /** The head of a method: what it is open to, its type, its name. */
    private static final Pattern METHOD = Pattern.compile("(?m)^ +((?:(?:public|private|static|final) )*)"
        + "(?!return|else|new)[\\w\\[\\]]+ (\\w+)\\([^;{]*\\) \\{");

    /** Rule 1: no other method bears the name of a public one. */
    private static void names(String code) {
        Set<String> face = new HashSet<>();
        List<String> own = new ArrayList<>();
        Matcher m = METHOD.matcher(code);
        while (m.find()) {
            if (m.group(1).contains("public")) {
                DUE.is("one public method is named " + m.group(2), face.add(m.group(2)), true);
            } else {
                own.add(m.group(2));
            }
        }
        DUE.is("public methods", face.size(), 35);
        DUE.is("methods of its own are found", own.size() > 50, true);
        for (String name : own) {
            DUE.is(name + " is a public one's name, too", face.contains(name), false);
        }
    }

    private static void methods(List<String> lines) {
        Pattern head = Pattern.compile("^(    |        )(?:\\w+(?:\\[\\])* )*(\\w+)\\((.*)\\) \\{$");
        for (int at = 0; at < lines.size(); at++) {
            Matcher m = head.matcher(lines.get(at));
            if (m.matches() && !m.group(2).matches("if|for|while|switch")) {
                int end = at;
                while (end < lines.size() && !lines.get(end).equals(m.group(1) + "}")) {
                    end++;
                }
                DUE.is(m.group(2) + " is short", end - at <= 60, true);
                DUE.is(m.group(2) + " takes few", m.group(3).split(",").length <= 7, true);
            }
        }
    }
}
