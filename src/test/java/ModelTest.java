import java.lang.reflect.InvocationTargetException;
import java.lang.reflect.Method;
import java.util.ArrayList;
import java.util.List;
import java.util.Random;

/** Long runs of calls, each answered by LeadLetters and by Model. The numbers come from fixed seeds: runs are always the same. */
public final class ModelTest {
    private static final int RUNS = 160;
    private static final int CALLS = 512;

    private final Random random;
    private final LeadLetters letters = new LeadLetters();
    private final Model model = new Model();
    private final List<String> log = new ArrayList<>();
    private boolean differs = false;

    private ModelTest(int seed) {
        random = new Random(seed);
    }

    public static void main(String[] args) throws Exception {
        int failed = 0;
        for (int seed = 1; seed <= RUNS; seed++) {
            ModelTest run = new ModelTest(seed);
            if (!run.goes(seed)) {
                failed++;
            }
        }
        System.out.println("ModelTest: " + (RUNS - failed) + " runs alike, " + failed + " not");
        if (failed > 0) System.exit(1);
    }

    private boolean goes(int seed) throws Exception {
        int theme = seed % 8;
        while (log.size() < CALLS && !differs) {
            step(random.nextInt(4) == 0 ? random.nextInt(8) : theme);
        }
        if (differs) {
            System.out.println("seed " + seed + ": call " + log.size() + " " + log.get(log.size() - 1));
        }
        return !differs;
    }

    private void step(int theme) throws Exception {
        switch (theme) {
            case 0 -> sorts();
            case 1 -> ways();
            case 2 -> settings();
            case 3 -> presses();
            case 4 -> leaves();
            case 5 -> evidence();
            case 6 -> loans();
            default -> images();
        }
    }

    private void call(String name, Object... args) throws Exception {
        if (differs || log.size() >= CALLS) return;
        Class<?>[] types = new Class<?>[args.length];
        for (int i = 0; i < args.length; i++) {
            types[i] = args[i] instanceof Long ? long.class : int.class;
        }
        Method due = Model.class.getDeclaredMethod(name, types);
        Object want = due.invoke(model, args);
        String row = name + List.of(args);
        try {
            Object got = LeadLetters.class.getMethod(name, types).invoke(letters, args);
            log.add(row + " answered " + got + ", due is " + want);
            differs = !got.equals(want);
        } catch (InvocationTargetException e) {
            log.add(row + " threw " + e.getCause());
            differs = true;
        }
    }

    private int upTo(int most) {
        return random.nextInt(most + 1);
    }

    private int from(int least, int most) {
        if (random.nextInt(40) == 0) return random.nextBoolean() ? least - 1 : most + 1;
        if (random.nextInt(200) == 0) return random.nextBoolean() ? Integer.MAX_VALUE : Integer.MIN_VALUE;
        if (random.nextInt(12) == 0) return random.nextBoolean() ? least : most;
        return least + random.nextInt(most - least + 1);
    }

    private int bad(int least, int most) {
        int n = random.nextBoolean() ? from(least - 1, most + 1) : random.nextInt();
        return n < least || n > most ? n : random.nextBoolean() ? least - 1 : most + 1;
    }

    private void tape(String signs) throws Exception {
        for (int i = 0; i < signs.length(); i += 8) {
            String part = signs.substring(i, Math.min(signs.length(), i + 8));
            long bytes = random.nextInt(4) == 0 && part.length() < 8 ? -1 : 0;
            for (char c : part.toCharArray()) bytes = bytes << 8 | c;
            call("feed", bytes, part.length());
        }
    }

    private String letters(int least, int most, int kinds) {
        StringBuilder s = new StringBuilder();
        for (int n = least + upTo(most - least); s.length() < n; ) s.append((char) ('a' + upTo(kinds - 1)));
        return s.toString();
    }

    private String clause() {
        switch (upTo(10)) {
            case 0: case 1: case 2: return "form " + letters(2, 3, 3) + " " + (1 + upTo(8)) + " " + upTo(upTo(9));
            case 3: return "bar " + letters(2, 3, 3);
            case 4: case 5: return "column " + (random.nextInt(3) == 0 ? upTo(99) : 10 + upTo(10));
            case 6: return "least " + (random.nextInt(3) == 0 ? upTo(12) : 1 + upTo(2));
            case 7: return "most " + (random.nextInt(3) == 0 ? upTo(99) : 2 + upTo(4));
            case 8: return "break " + upTo(9);
            case 9: return "wide " + upTo(upTo(9));
            default: return "feast " + (random.nextInt(3) == 0 ? upTo(99) : upTo(31));
        }
    }

    private String way() {
        StringBuilder s = new StringBuilder(clause());
        for (int n = upTo(random.nextInt(5) == 0 ? 9 : 5); n > 0; n--) s.append(';').append(clause());
        if (s.length() > 112) s.setLength(s.lastIndexOf(";", 112));
        return random.nextInt(4) == 0 ? spoilt(s) : s.toString();
    }

    private String spoilt(StringBuilder s) {
        int at = upTo(s.length() - 1);
        String signs = "abcmf0129 ;;   {`/:A" + (char) 0 + (char) 233 + (char) 255;
        char sign = signs.charAt(upTo(signs.length() - 1));
        switch (upTo(3)) {
            case 0 -> s.setLength(at);
            case 1 -> s.deleteCharAt(at);
            case 2 -> s.insert(at, sign);
            default -> s.setCharAt(at, sign);
        }
        return s.toString();
    }

    private String verse() {
        int most = random.nextInt(4) == 0 ? 70 : random.nextInt(3) == 0 ? 58 : 25;
        StringBuilder s = new StringBuilder(letters(1, 8, 3));
        while (s.length() < most && random.nextInt(12) > 0) s.append(' ').append(letters(1, 8, 3));
        return random.nextInt(8) == 0 ? spoilt(s) : s.toString();
    }

    private void text() throws Exception {
        if (random.nextInt(8) > 0) call("count", 10);
        tape(way());
        call("text", random.nextInt(3) == 0 ? from(0, 999) : from(0, 60));
    }

    private void sorts() throws Exception {
        switch (upTo(5)) {
            case 0 -> call("sort", from(0, 26), from(1, 9));
            case 1 -> call("cast", random.nextInt(3) == 0 ? from(0, 26) : from(0, 2), from(1, 999));
            case 2 -> call("many", from(0, 4), from(0, 2));
            case 3 -> call("many", from(0, 26), from(0, 2));
            case 4 -> call("day", random.nextInt(3) == 0 ? from(1, 99) : from(1, 9));
            default -> call("count", from(0, 10));
        }
    }

    private void ways() throws Exception {
        switch (upTo(4)) {
            case 0 -> text();
            case 1, 2 -> call("force", from(0, 6), random.nextInt(3) == 0 ? from(0, 999) : from(0, 60));
            case 3 -> {
                tape(verse());
                call("verse");
            }
            default -> call("feed", random.nextLong(), from(1, 8));
        }
    }

    private int anyVerse() {
        return model.w.verses.isEmpty() ? 0 : from(0, model.w.verses.size() - 1);
    }

    private void settings() throws Exception {
        int day = random.nextInt(3) == 0 ? from(0, 999) : from(0, 60);
        switch (upTo(12)) {
            case 0, 1 -> {
                tape(verse());
                call("verse");
            }
            case 2 -> text();
            case 3 -> {
                int verse = anyVerse();
                for (int what : new int[] {0, 1, 2, 3, 10, 11, 12, 13, 14, from(0, 16)}) call("line", verse, day, what);
            }
            case 4 -> {
                int verse = anyVerse();
                for (int sort : new int[] {0, 1, 2, 26, from(0, 26)}) call("needs", verse, day, sort);
            }
            case 5, 6 -> {
                int verse = anyVerse();
                for (int what = 0; what < 3; what++) call("enough", verse, what);
                call("enough", verse, from(0, 2));
            }
            case 7, 8 -> call("page", anyVerse());
            case 9 -> call("pull", from(0, Math.max(0, model.w.pages.size() - 1)), from(300, 500));
            case 10 -> call("down", from(0, Math.max(0, model.w.pages.size() - 1)));
            case 11 -> {
                for (int sort = 0; sort < 3; sort++) call("cast", sort, 1 + upTo(8));
                call("cast", 26, 1 + upTo(2));
            }
            default -> {
                tape(way());
                call("tried", anyVerse(), from(0, 1));
            }
        }
    }

    private void presses() throws Exception {
        switch (upTo(6)) {
            case 0 -> call("press", from(0, 3), random.nextInt(3) == 0 ? from(0, 99) : from(0, 4));
            case 1, 2 -> call("order", from(0, Math.max(0, model.w.pages.size() - 1)), from(1, random.nextInt(3) == 0 ? 999 : 100));
            case 3 -> call("day", random.nextInt(3) == 0 ? from(1, 99) : from(1, 9));
            case 4 -> {
                int job = from(0, Math.max(0, model.w.jobs.size() - 1));
                for (int what = 0; what < 3; what++) call("done", job, what);
                call("done", job, from(0, 2));
            }
            case 5 -> {
                if (random.nextInt(6) == 0) text();
            }
            default -> {
                if (model.w.pages.isEmpty()) {
                    tape(letters(1, 5, 2));
                    call("verse");
                    call("cast", 0, 9);
                    call("cast", 1, 9);
                    call("page", 0);
                }
            }
        }
    }

    private void leaves() throws Exception {
        int any = from(0, Math.max(0, model.w.leaves.size() - 1));
        switch (upTo(4)) {
            case 0 -> call("leaf", from(0, 6), from(0, 29), from(0, 255), from(0, 9));
            case 1 -> call("leaf", from(0, 6), from(0, 3), from(0, 3), from(0, 9));
            case 2 -> call("shows", any, from(0, 1));
            case 3 -> call("as", any, from(0, 6));
            default -> call("copies", from(0, 1023));
        }
    }

    private void evidence() throws Exception {
        switch (upTo(9)) {
            case 0 -> call("state", random.nextBoolean() ? (1 << upTo(8)) - 1 : from(0, 65535));
            case 1 -> call("state", random.nextBoolean() ? (1 << upTo(4)) - 1 : from(0, 3));
            case 2 -> call("allowed", -1);
            case 3 -> call("allowed", from(-1, Math.max(0, model.w.states.size() - 1)));
            case 4 -> call("hand", random.nextBoolean() ? from(0, 9999) : upTo(2) * 1000 + upTo(2) * 100 + upTo(2) * 10 + upTo(2));
            case 5 -> call("rival", from(0, random.nextBoolean() ? 36 : 6), from(0, 1));
            case 6, 7 -> {
                int a = upTo(9), b = upTo(9);
                if (random.nextInt(12) > 0) call("ahead", Math.min(a, b), Math.max(a, b));
                else call("ahead", from(0, 9), from(0, 9));
            }
            case 8 -> call("runs", from(1, 7), from(0, 1));
            default -> {
                call("runs", from(1, 7), from(10, 16));
                call("runs", bad(1, 10), random.nextBoolean() ? from(10, 20) : random.nextInt());
            }
        }
    }

    private void loans() throws Exception {
        int loan = from(0, Math.max(0, model.w.loans.size() - 1));
        switch (upTo(7)) {
            case 0 -> call("loan", from(1, 9999), random.nextBoolean() ? from(0, 999) : from(0, 300), from(0, 40));
            case 1 -> {
                int begin = model.w.loans.isEmpty() ? 0 : model.w.loans.get(model.w.loans.size() / 2).day();
                call("pay", model.w.loans.size() / 2, from(begin + 359, begin + 361), from(1, 500));
            }
            case 2 -> call("pay", loan, from(0, 999), from(1, random.nextBoolean() ? 2000 : 9999));
            case 3, 4 -> call("owe", loan, from(0, 999));
            case 5 -> call("thing", from(0, 7), random.nextBoolean() ? from(0, 9999) : from(0, 9));
            case 6 -> call("suit", random.nextBoolean() ? from(0, 40) : from(0, 999));
            default -> call("suit", from(0, 99999));
        }
    }

    private void images() throws Exception {
        switch (upTo(11)) {
            case 0 -> call("image");
            case 1 -> call("undo");
            case 2, 3, 4 -> {
                for (int what = 0; what < 11; what++) call("count", what);
                call("count", from(0, 10));
            }
            default -> step(upTo(6));
        }
    }
}
