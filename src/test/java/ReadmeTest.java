import java.io.IOException;
import java.lang.reflect.InvocationTargetException;
import java.lang.reflect.Method;
import java.lang.reflect.Modifier;
import java.nio.file.DirectoryStream;
import java.nio.file.Files;
import java.nio.file.Path;
import java.util.ArrayList;
import java.util.List;
import java.util.regex.Matcher;
import java.util.regex.Pattern;

/** README.md tells the truth: its calls are made here, and no call and no test is left out of it. */
public final class ReadmeTest {
    private static final Due DUE = new Due();
    private static final Pattern BLOCK = Pattern.compile("(?s)```java\n(.*?)```");
    private static final Pattern FED = Pattern.compile("feed\\(night, \"(.*)\"\\);");
    private static final Pattern CALL = Pattern.compile("night\\.(\\w+)\\((.*)\\);\\s+// (true|false|-?\\d+)\\b.*");

    private final SlideNight night = new SlideNight();

    public static void main(String[] args) throws IOException, IllegalAccessException, InvocationTargetException {
        String readme = Files.readString(Path.of("README.md"));
        String self = Files.readString(Path.of("src/test/java/ReadmeTest.java"));
        List<String> blocks = new ArrayList<>();
        Matcher m = BLOCK.matcher(readme);
        while (m.find()) {
            blocks.add(m.group(1));
        }
        DUE.is("blocks of code", blocks.size(), 3);
        DUE.is("the feed of the README is the one here", withoutBlanks(self).contains(withoutBlanks(blocks.get(0))), true);
        ReadmeTest test = new ReadmeTest();
        for (String line : String.join("", blocks.subList(1, blocks.size())).split("\n")) {
            test.run(line);
        }
        nothingLeftOut(readme);
        DUE.end();
    }

    private static String withoutBlanks(String text) {
        return text.replaceAll("\\s+", "");
    }

    private void run(String line) throws IllegalAccessException, InvocationTargetException {
        Matcher fed = FED.matcher(line);
        Matcher call = CALL.matcher(line);
        if (fed.matches()) {
            feed(night, fed.group(1).translateEscapes());
        } else if (call.matches()) {
            String got = String.valueOf(answer(call.group(1), call.group(2)));
            DUE.is(line + " - it is " + got + ": as told", got.equals(call.group(3)), true);
        } else {
            DUE.is("'" + line + "' is a new object or nothing",
                line.isEmpty() || line.equals("SlideNight night = new SlideNight();"), true);
        }
    }

    private Object answer(String name, String given) throws IllegalAccessException, InvocationTargetException {
        String[] texts = given.isEmpty() ? new String[0] : given.split(", ");
        Object[] numbers = new Object[texts.length];
        for (int k = 0; k < texts.length; k++) {
            numbers[k] = Integer.valueOf(texts[k]);
        }
        for (Method method : SlideNight.class.getDeclaredMethods()) {
            if (method.getName().equals(name) && method.getParameterCount() == numbers.length) {
                return method.invoke(night, numbers);
            }
        }
        return "no such call";
    }

    private static void nothingLeftOut(String readme) throws IOException {
        for (Method method : SlideNight.class.getDeclaredMethods()) {
            if (Modifier.isPublic(method.getModifiers())) {
                DUE.is("README tells of " + method.getName(), readme.contains("`" + method.getName() + "`"), true);
            }
        }
        try (DirectoryStream<Path> files = Files.newDirectoryStream(Path.of("src/test/java"), "*Test.java")) {
            for (Path file : files) {
                String name = file.getFileName().toString().replace(".java", "");
                DUE.is("README tells of " + name, readme.contains("| `" + name + "` |"), true);
            }
        }
    }

    static void feed(SlideNight night, String text) {
        StringBuilder signs = new StringBuilder(text);
        while (signs.length() % 20 != 0) {
            signs.append('.');
        }
        for (int at = 0; at < signs.length(); at += 20) {
            night.feed(four(signs, at), four(signs, at + 4), four(signs, at + 8), four(signs, at + 12), four(signs, at + 16));
        }
    }

    static int four(CharSequence signs, int at) {
        return signs.charAt(at) << 24 | signs.charAt(at + 1) << 16 | signs.charAt(at + 2) << 8 | signs.charAt(at + 3);
    }
}
