import java.io.IOException;
import java.nio.charset.StandardCharsets;
import java.nio.file.Files;
import java.nio.file.Path;
import java.util.ArrayList;
import java.util.HashSet;
import java.util.List;
import java.util.Map;
import java.util.Set;
import java.util.TreeMap;
import java.util.regex.Pattern;
import java.util.stream.Stream;

/**
 * The boundary cases, from the files of src/test/edges, one a promise and one for the order of refusals. "promise 3" names
 * the promise, "says .." the sentence of the document that the class is held against (word for word, of this promise or of
 * the Terms; one of the Terms goes on holding behind another "promise"), "case .." the edge: the rows behind it are one test
 * on a new object. A row without a due answer leads there and may not be refused.
 * Each row is asked of LeadLetters and of the Model; behind each refused call nothing may be changed. No sentence of the
 * document may be without a test, and no refusal that a promise names.
 */
public final class EdgesTest {
    private static final Set<Long> REFUSALS = Set.of(-1L, -2L, -3L, -4L, -9L);
    private static final Map<String, Long> NAMED = Map.of("NONE", -1L, "BAD", -2L, "STATE(?=[:;.])", -3L, "FULL", -4L,
        "-5(?=:)", -5L, "-6(?=:)", -6L, "-9(?=[;.])", -9L);
    private static final int CALLS = 512;

    private static int tests = 0;
    private static int wrong = 0;

    private final Document document = new Document();
    private final Set<String> held = new HashSet<>();
    private final Set<String> refused = new HashSet<>();
    private final Map<Integer, Integer> cases = new TreeMap<>();
    private final List<Rows.Call> rows = new ArrayList<>();
    private int promise = 0;
    private String sentence = "";
    private String edge = "";

    private EdgesTest() throws IOException { }

    public static void main(String[] args) throws IOException {
        EdgesTest test = new EdgesTest();
        try (Stream<Path> files = Files.list(Path.of("src/test/edges"))) {
            for (Path file : files.sorted().toList()) test.read(file);
        }
        test.allIsHeld();
        for (int p : test.document.calls.keySet()) {
            System.out.println("promise " + p + " (" + test.document.calls.get(p) + "): " + test.cases.getOrDefault(p, 0) + " boundary cases");
        }
        System.out.println("EdgesTest: " + tests + " boundary cases, " + wrong + " wrong");
        if (wrong > 0) System.exit(1);
    }

    private static void say(String what) {
        wrong++;
        System.out.println(what);
    }

    private void read(Path file) throws IOException {
        for (String line : Files.readAllLines(file, StandardCharsets.US_ASCII)) {
            if (line.startsWith("promise ")) {
                runCase();
                promise = Integer.parseInt(line.substring(8));
                sentence = document.terms.contains(sentence) ? sentence : "";
            } else if (line.startsWith("says ")) {
                runCase();
                takeSentence(line.substring(5));
            } else if (line.startsWith("case ")) {
                runCase();
                edge = line.substring(5);
            } else {
                rows.addAll(Rows.read(line));
            }
        }
        runCase();
        promise = 0;
        sentence = "";
    }

    private void takeSentence(String words) {
        sentence = words;
        boolean stands = document.promises.getOrDefault(promise, List.of()).contains(words)
            || document.terms.contains(words) || document.lifetime.equals(words);
        if (!stands) say("promise " + promise + ": the document does not say: " + words);
    }

    private String name() {
        return "promise " + promise + ", \"" + sentence + "\", " + edge;
    }

    private void runCase() {
        if (rows.isEmpty() && edge.isEmpty()) return;
        tests++;
        cases.merge(promise, 1, Integer::sum);
        if (promise == 0 || sentence.isEmpty() || edge.isEmpty()) say(name() + ": no promise, sentence or edge");
        if (rows.size() > CALLS) say(name() + ": more than " + CALLS + " calls");
        if (rows.stream().allMatch(call -> call.due() == null)) say(name() + ": no answer is due");
        held.add(promise + sentence);
        held.add(sentence);
        try {
            runRows();
        } catch (IllegalStateException | IllegalArgumentException e) {
            say(name() + ": " + e.getMessage());
        }
        rows.clear();
        edge = "";
    }

    private void runRows() {
        LeadLetters letters = new LeadLetters();
        Model model = new Model();
        for (int i = 0; i < rows.size(); i++) {
            Rows.Call call = rows.get(i);
            long answer = Rows.answer(letters, call);
            boolean good = call.due() == null ? answer >= 0 : answer == call.due();
            if (!good) say(name() + ": row " + (i + 1) + " " + call.row() + " answered " + answer);
            long second = Rows.answer(model, call);
            if (second != answer) say(name() + ": row " + (i + 1) + " " + call.row() + ", the model answers " + second);
            if (call.due() == null) continue;
            refused.add(promise + call.name() + call.due());
            if (isRefused(call) && Twins.differ(rows.subList(0, i), call)) {
                say(name() + ": row " + (i + 1) + " " + call.row() + " changed something");
            }
        }
    }

    /** SHOWS of a LOST LEAF is -1, too; the -9 of tried() is told with THE TAPE empty. */
    private static boolean isRefused(Rows.Call call) {
        return REFUSALS.contains(call.due()) && !(call.name().equals("tried") && call.due() == -9);
    }

    private void allIsHeld() {
        for (int p : document.promises.keySet()) {
            for (String words : document.promises.get(p)) {
                if (!held.contains(p + words)) say("promise " + p + ", \"" + words + "\" has no test");
                for (String name : NAMED.keySet()) {
                    boolean names = Pattern.compile("(^|[ (])" + name).matcher(words).find();
                    boolean isShown = refused.contains(p + document.calls.get(p) + NAMED.get(name));
                    if (names && !isShown) say("promise " + p + ": no test has the refusal " + NAMED.get(name));
                }
            }
        }
        for (String words : document.terms) {
            if (!held.contains(words)) say("\"" + words + "\" (Terms) has no test");
        }
        if (document.promises.size() != 37) say("37 promises are due, read were " + document.promises.size());
    }
}
