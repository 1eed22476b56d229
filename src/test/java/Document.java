import java.io.IOException;
import java.nio.file.Files;
import java.nio.file.Path;
import java.util.ArrayList;
import java.util.List;
import java.util.Map;
import java.util.TreeMap;
import java.util.regex.Matcher;
import java.util.regex.Pattern;

/** The sentences of ../shared/DOC.md: those of each promise, those of the Terms, and the one about 512 calls. */
final class Document {
    static final Path PLACE = Path.of("../shared/DOC.md");

    final Map<Integer, List<String>> promises = new TreeMap<>();
    final Map<Integer, String> calls = new TreeMap<>();
    final List<String> terms = new ArrayList<>();
    final String lifetime;

    Document() throws IOException {
        String text = Files.readString(PLACE);
        Matcher promise = Pattern.compile("## Promise (\\d+): .*\n+`(?:int )?(\\w+)\\(.*\\)`: (.*)\n").matcher(text);
        while (promise.find()) {
            calls.put(Integer.parseInt(promise.group(1)), promise.group(2));
            promises.put(Integer.parseInt(promise.group(1)), sentences(promise.group(3)));
        }
        String part = text.substring(text.indexOf("## Terms"), text.indexOf("## Promise 1:"));
        String body = part.replaceAll("(?m)^(##|```|Ahead of the calls) ?.*$", "");
        for (String term : body.split("==== \\d ")) terms.addAll(sentences(term));
        lifetime = text.lines().filter(line -> line.startsWith("An object is used for")).findFirst().orElse("");
    }

    /** A full stop, or one and a bracket, ends a sentence: the two points of 0 .. 9 do not. */
    private static List<String> sentences(String text) {
        List<String> all = new ArrayList<>();
        for (String sentence : text.replaceAll("\\s+", " ").trim().split("(?<=[^ .]\\.) |(?<=\\.\\)) ")) {
            if (!sentence.isBlank()) all.add(sentence);
        }
        return all;
    }
}
