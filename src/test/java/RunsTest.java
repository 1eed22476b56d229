import java.io.IOException;
import java.nio.charset.StandardCharsets;
import java.nio.file.Files;
import java.nio.file.Path;
import java.util.List;
import java.util.stream.Stream;

/**
 * Runs the files of src/test/runs, one a promise: rows of calls (as Rows tells) on one object, till "new" makes a new one.
 * "constant NONE = -1" is about a constant.
 */
public final class RunsTest {
    private static int rows = 0;
    private static int wrong = 0;
    private static LeadLetters letters = new LeadLetters();

    public static void main(String[] args) throws IOException, ReflectiveOperationException {
        List<Path> files;
        try (Stream<Path> all = Files.list(Path.of("src/test/runs"))) {
            files = all.filter(p -> p.toString().endsWith(".run")).sorted().toList();
        }
        if (files.size() != 38) {
            System.out.println("37 promises and the constants want 38 files, there are " + files.size());
            wrong++;
        }
        for (Path file : files) {
            letters = new LeadLetters();
            List<String> lines = Files.readAllLines(file, StandardCharsets.US_ASCII);
            for (int i = 0; i < lines.size(); i++) {
                row(file.getFileName() + ":" + (i + 1), Rows.withoutRemark(lines.get(i)).trim());
            }
        }
        System.out.println("RunsTest: " + rows + " calls, " + wrong + " wrong");
        if (wrong > 0) System.exit(1);
    }

    private static void row(String place, String row) throws ReflectiveOperationException {
        if (row.equals("new")) {
            letters = new LeadLetters();
        } else if (row.startsWith("constant ")) {
            String[] words = row.split(" ");
            check(place, row, LeadLetters.class.getField(words[1]).getInt(null), Long.parseLong(words[3]));
        } else {
            for (Rows.Call call : Rows.read(row)) call(place, call);
        }
    }

    private static void call(String place, Rows.Call call) {
        try {
            long got = Rows.answer(letters, call);
            if (call.due() != null) check(place, call.row(), got, call.due());
        } catch (IllegalStateException | IllegalArgumentException e) {
            wrong++;
            System.out.println(place + ": " + e.getMessage());
        }
    }

    private static void check(String place, String row, long got, long want) {
        rows++;
        if (got != want) {
            wrong++;
            System.out.println(place + ": " + row + ", but answered " + got);
        }
    }
}
