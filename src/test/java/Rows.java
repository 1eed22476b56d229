import java.lang.reflect.InvocationTargetException;
import java.lang.reflect.Method;
import java.util.ArrayList;
import java.util.List;

/**
 * Rows of calls with their due answers, as the files of src/test/runs and src/test/edges have them. A row is a call and
 * its due answer ("cast 0 9 = 9"); "tape ab c|" feeds these signs (the | behind them is left out: it shows a blank at the
 * end); "times 20: .." is a row so often, with the number of the time (from 0 on) for each % in it. MAX and MIN are the
 * greatest and the least int. What stands behind # is for the reader.
 */
final class Rows {
    /** One call, as it was written, and the answer that is due (null: it is told nowhere). */
    record Call(String row, String name, long[] args, Long due) { }

    private Rows() { }

    static String withoutRemark(String line) {
        return line.startsWith("#") ? "" : line.split(" # ")[0];
    }

    static List<Call> read(String line) {
        List<Call> calls = new ArrayList<>();
        String row = withoutRemark(line);
        if (row.startsWith("tape ")) {
            feed(row.endsWith("|") ? row.substring(5, row.length() - 1) : row.substring(5), calls);
        } else if (row.startsWith("times ")) {
            int colon = row.indexOf(": ");
            int times = Integer.parseInt(row.substring(6, colon));
            for (int i = 0; i < times; i++) {
                calls.addAll(read(row.substring(colon + 2).replace("%", String.valueOf(i))));
            }
        } else if (!row.isBlank()) {
            calls.add(call(row.trim()));
        }
        return calls;
    }

    private static void feed(String signs, List<Call> calls) {
        for (int i = 0; i < signs.length(); i += 8) {
            String part = signs.substring(i, Math.min(signs.length(), i + 8));
            long bytes = 0;
            for (char sign : part.toCharArray()) bytes = bytes << 8 | sign;
            calls.add(new Call("tape " + part + "|", "feed", new long[] {bytes, part.length()}, null));
        }
    }

    private static Call call(String row) {
        String[] sides = row.split(" = ");
        String[] words = sides[0].trim().split(" +");
        long[] args = new long[words.length - 1];
        for (int i = 0; i < args.length; i++) args[i] = number(words[i + 1]);
        return new Call(row, words[0], args, sides.length > 1 ? number(sides[1].trim()) : null);
    }

    private static long number(String word) {
        return switch (word) {
            case "MAX" -> Integer.MAX_VALUE;
            case "MIN" -> Integer.MIN_VALUE;
            default -> Long.parseLong(word);
        };
    }

    /** What an object (a LeadLetters or a Model) answers to a call. */
    static long answer(Object object, Call call) {
        for (Method method : object.getClass().getDeclaredMethods()) {
            if (!method.getName().equals(call.name) || method.getParameterCount() != call.args.length) continue;
            Object[] args = new Object[call.args.length];
            for (int i = 0; i < args.length; i++) {
                if (method.getParameterTypes()[i] == long.class) args[i] = call.args[i];
                else args[i] = Math.toIntExact(call.args[i]);
            }
            try {
                return (Integer) method.invoke(object, args);
            } catch (InvocationTargetException e) {
                throw new IllegalStateException(call.row + " threw " + e.getCause(), e.getCause());
            } catch (IllegalAccessException e) {
                throw new IllegalStateException(e);
            }
        }
        throw new IllegalArgumentException("there is no such call: " + call.row);
    }
}
