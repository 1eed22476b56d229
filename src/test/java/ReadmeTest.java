import java.io.IOException;
import java.nio.file.Files;
import java.nio.file.Path;
import java.util.List;
import java.util.regex.Matcher;
import java.util.regex.Pattern;
import java.util.stream.Stream;

/** README.md tells what stands: the example as it is run, each call of the document's face, each class, each test. */
public final class ReadmeTest {
    private static final Path TESTS = Path.of("src/test/java");

    private static int wrong = 0;

    public static void main(String[] args) throws IOException {
        String readme = Files.readString(Path.of("README.md"));
        say(block(readme, "```java\n").equals(Files.readString(TESTS.resolve("ExampleTest.java"))), "the example is not ExampleTest");
        calls(readme);
        for (Class<?> inner : LeadLetters.class.getDeclaredClasses()) {
            say(readme.contains("`" + inner.getSimpleName() + "`"), inner.getSimpleName() + " is told nowhere");
        }
        for (String test : tests()) {
            say(readme.contains("`" + test + "`"), test + " is told nowhere");
        }
        System.out.println("ReadmeTest: " + wrong + " wrong");
        if (wrong > 0) System.exit(1);
    }

    private static void say(boolean good, String what) {
        if (good) return;
        wrong++;
        System.out.println("README.md: " + what);
    }

    private static String block(String text, String head) {
        int begin = text.indexOf(head);
        int end = text.indexOf("```", begin + head.length());
        return begin < 0 || end < 0 ? "" : text.substring(begin + head.length(), end);
    }

    /** The rows of the table of calls are those of the document's face, in its order. */
    private static void calls(String readme) throws IOException {
        int from = 0;
        Matcher face = Pattern.compile("public int (\\w+)\\((.*)\\);").matcher(Files.readString(Document.PLACE));
        while (face.find()) {
            String row = "\n| `" + face.group(1) + "(" + face.group(2).replaceAll("(int|long) ", "") + ")` | ";
            int at = readme.indexOf(row, from);
            say(at >= 0, "no row (or none in its place) for " + face.group());
            from = Math.max(from, at);
        }
        say(from > 0, "the document has no calls");
    }

    private static List<String> tests() throws IOException {
        try (Stream<Path> files = Files.list(TESTS)) {
            return files.map(file -> file.getFileName().toString().replace(".java", "")).filter(name -> name.endsWith("Test")).sorted().toList();
        }
    }
}
