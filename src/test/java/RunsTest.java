import java.io.IOException;
import java.lang.reflect.InvocationTargetException;
import java.lang.reflect.Method;
import java.nio.charset.StandardCharsets;
import java.nio.file.Files;
import java.nio.file.Path;
import java.util.List;
import java.util.stream.Stream;

/**
 * Runs the files of src/test/runs, one a promise. A row is a call and its due answer ("cast 0 9 = 9"); "new" makes a new
 * object; "tape ab c" feeds these signs (one | behind them is left out: it shows a blank at the end); "times 20: .." does
 * a row so often, with the number of the time (from 0 on) for each % in it. What stands behind # is for the reader.
 */
public final class RunsTest {
    private static int rows = 0;
    private static int wrong = 0;
    private static LeadLetters letters = new LeadLetters();

    public static void main(String[] args) throws IOException {
        List<Path> files;
        try (Stream<Path> all = Files.list(Path.of("src/test/runs"))) {
            files = all.filter(p -> p.toString().endsWith(".run")).sorted().toList();
        }
        if (files.size() != 38) {
            System.out.println("37 promises and the constants want 38 files, there are " + files.size());
            wrong++;
        }
        for (Path file : files) {
            letters = new LeadLetters();
            List<String> lines = Files.readAllLines(file, StandardCharsets.ISO_8859_1);
            for (int i = 0; i < lines.size(); i++) {
                row(file.getFileName() + ":" + (i + 1), lines.get(i));
            }
        }
        System.out.println("RunsTest: " + rows + " calls, " + wrong + " wrong");
        if (wrong > 0) System.exit(1);
    }

    private static void row(String place, String line) {
        String row = line.split(" # ")[0];
        if (row.isBlank() || row.startsWith("#")) {
            return;
        }
        if (row.equals("new")) {
            letters = new LeadLetters();
        } else if (row.startsWith("tape ")) {
            feed(row.endsWith("|") ? row.substring(5, row.length() - 1) : row.substring(5));
        } else if (row.startsWith("times ")) {
            int colon = row.indexOf(": ");
            int times = Integer.parseInt(row.substring(6, colon));
            for (int i = 0; i < times; i++) {
                row(place, row.substring(colon + 2).replace("%", String.valueOf(i)));
            }
        } else {
            check(place, row);
        }
    }

    private static void feed(String signs) {
        for (int i = 0; i < signs.length(); i++) {
            letters.feed(signs.charAt(i), 1);
        }
    }

    private static void check(String place, String row) {
        String[] sides = row.trim().split(" = ");
        String[] words = sides[0].trim().split(" +");
        long want = Long.parseLong(sides[1].trim());
        rows++;
        try {
            long got = words[0].equals("constant") ? constant(words[1]) : answer(words);
            if (got != want) {
                wrong++;
                System.out.println(place + ": " + row + ", but answered " + got);
            }
        } catch (ReflectiveOperationException e) {
            wrong++;
            System.out.println(place + ": " + row + ", but " + (e instanceof InvocationTargetException ? e.getCause() : e));
        }
    }

    private static long constant(String name) throws ReflectiveOperationException {
        return LeadLetters.class.getField(name).getInt(null);
    }

    private static long answer(String[] words) throws ReflectiveOperationException {
        for (Method method : LeadLetters.class.getMethods()) {
            if (method.getName().equals(words[0]) && method.getParameterCount() == words.length - 1) {
                Object[] args = new Object[words.length - 1];
                for (int i = 0; i < args.length; i++) {
                    boolean isLong = method.getParameterTypes()[i] == long.class;
                    if (isLong) args[i] = Long.parseLong(words[i + 1]);
                    else args[i] = Integer.parseInt(words[i + 1]);
                }
                return (Integer) method.invoke(letters, args);
            }
        }
        throw new NoSuchMethodException(words[0]);
    }
}
