import java.io.ByteArrayInputStream;
import java.io.ByteArrayOutputStream;
import java.io.ObjectInputStream;
import java.io.ObjectOutputStream;
import java.io.Serializable;
import java.util.ArrayList;
import java.util.Arrays;
import java.util.HashMap;
import java.util.HashSet;
import java.util.LinkedHashMap;
import java.util.List;
import java.util.Map;
import java.util.Set;
import java.util.TreeMap;
import java.util.regex.Matcher;
import java.util.regex.Pattern;

/** The document once more, in the plainest way and with the whole Java library: what LeadLetters is compared with. */
final class Model {
    static final int NONE = -1, BAD = -2, STATE = -3, FULL = -4;

    record Clause(String word, String letters, int n, int u) implements Serializable { }

    record Way(int day, int number, List<Clause> clauses) implements Serializable { }

    record Form(String letters, int width, int ugly) { }

    record Loan(int coins, int day, int hundredths) implements Serializable { }

    record Paid(int loan, int day, int coins) implements Serializable { }

    record Job(int press, int first, int done) implements Serializable { }

    record Leaf(int kind, int p, int h, int town) implements Serializable { }

    record Rule(int a, int b) implements Serializable { }

    static final class Page implements Serializable {
        int[] needs;
        int pulls = 0;
        boolean stands = true;
    }

    static final class World implements Serializable {
        int today = 0;
        String tape = "";
        int[] widths = new int[27], inCase = new int[27], pot = new int[27];
        ArrayList<Way> ways = new ArrayList<>();
        ArrayList<String> verses = new ArrayList<>();
        ArrayList<Page> pages = new ArrayList<>();
        int[] rates = new int[4];
        ArrayList<Job> jobs = new ArrayList<>();
        ArrayList<Leaf> leaves = new ArrayList<>();
        ArrayList<Integer> states = new ArrayList<>(), hands = new ArrayList<>();
        ArrayList<Rule> rules = new ArrayList<>();
        ArrayList<Loan> loans = new ArrayList<>();
        ArrayList<Paid> paid = new ArrayList<>();
        int[] worths = new int[8];
    }

    World w = new World();
    byte[] image = null;

    Model() {
        Arrays.fill(w.widths, 2);
        w.widths[26] = 1;
    }

    static boolean in(int low, int n, int high) {
        return low <= n && n <= high;
    }

    // ---- sorts

    int sort(int sort, int width) {
        if (!in(0, sort, 26)) return NONE;
        if (!in(1, width, 9)) return BAD;
        if (w.pages.stream().anyMatch(p -> p.stands)) return STATE;
        int was = w.widths[sort];
        w.widths[sort] = width;
        return was;
    }

    int cast(int sort, int n) {
        if (!in(0, sort, 26)) return NONE;
        if (!in(1, n, 999)) return BAD;
        if (w.inCase[sort] + n > 9999) return FULL;
        for (int i = 0; i < n; i++) {
            if (w.pot[sort] > 0) w.pot[sort]--;
            w.inCase[sort]++;
        }
        return w.inCase[sort];
    }

    int many(int sort, int what) {
        if (!in(0, sort, 26) || !in(0, what, 2)) return NONE;
        if (what == 0) return w.inCase[sort];
        if (what == 2) return w.pot[sort];
        return w.pages.stream().filter(p -> p.stands).mapToInt(p -> p.needs[sort]).sum();
    }

    int day(int n) {
        if (!in(1, n, 99) || w.today + n > 999) return BAD;
        return w.today += n;
    }

    int feed(long v, int n) {
        if (!in(1, n, 8)) return BAD;
        if (w.tape.length() + n > 120) return FULL;
        byte[] all = java.nio.ByteBuffer.allocate(8).putLong(v).array();
        for (int i = 8 - n; i < 8; i++) w.tape += (char) (all[i] & 255);
        return w.tape.length();
    }

    // ---- ways

    static final String CLAUSE =
        "(?:form [a-z]{2,3} [1-9] [0-9]|bar [a-z]{2,3}|(?:column|least|most|feast) (?:0|[1-9][0-9]?)|(?:break|wide) [0-9])";
    static final Pattern WAY = Pattern.compile(CLAUSE + "(?:;" + CLAUSE + "){0,7}");

    /** The first prefix that no WAY begins with: the pattern neither has it nor came to its end. */
    static int wayFault(String tape) {
        for (int size = 1; size <= tape.length(); size++) {
            Matcher m = WAY.matcher(tape.substring(0, size));
            if (!m.matches() && !m.hitEnd()) return size - 1;
        }
        return WAY.matcher(tape).matches() ? -1 : tape.length();
    }

    static Way wayOf(String tape, int day, int number) {
        List<Clause> clauses = new ArrayList<>();
        for (String part : tape.split(";")) {
            String[] words = part.split(" ");
            switch (words[0]) {
                case "form" -> clauses.add(new Clause("form", words[1], Integer.parseInt(words[2]), Integer.parseInt(words[3])));
                case "bar" -> clauses.add(new Clause("bar", words[1], 0, 0));
                default -> clauses.add(new Clause(words[0], "", Integer.parseInt(words[1]), 0));
            }
        }
        return new Way(day, number, clauses);
    }

    int text(int day) {
        if (!in(0, day, 999)) return BAD;
        if (w.ways.size() == 8) return FULL;
        String tape = w.tape;
        w.tape = "";
        int fault = wayFault(tape);
        if (fault >= 0) return -10 - fault;
        w.ways.add(wayOf(tape, day, w.ways.size()));
        return w.ways.size() - 1;
    }

    final class Holds {
        final Map<String, Integer> words = new HashMap<>(Map.of("column", 12, "least", 1, "most", 3, "break", 5, "wide", 1));
        final Map<String, Form> forms = new TreeMap<>();
        final Set<Integer> feasts = new HashSet<>();

        Holds(int day, Way more) {
            List<Way> ways = new ArrayList<>(w.ways);
            if (more != null) ways.add(more);
            ways.removeIf(way -> way.day > day);
            ways.sort((a, b) -> a.day != b.day ? Integer.compare(a.day, b.day) : Integer.compare(a.number, b.number));
            for (Way way : ways) {
                for (Clause c : way.clauses) {
                    switch (c.word) {
                        case "form" -> forms.put(c.letters, new Form(c.letters, c.n, c.u));
                        case "bar" -> forms.remove(c.letters);
                        case "feast" -> feasts.add(c.n);
                        default -> words.put(c.word, c.n);
                    }
                }
            }
        }

        int column() {
            return Math.min(40, Math.max(10, words.get("column")));
        }

        int least() {
            return Math.min(9, Math.max(1, words.get("least")));
        }

        int most() {
            int most = Math.min(9, Math.max(1, words.get("most")));
            return most < least() ? least() : most;
        }
    }

    int force(int word, int day) {
        if (!in(0, word, 6)) return NONE;
        if (!in(0, day, 999)) return BAD;
        Holds h = new Holds(day, null);
        return switch (word) {
            case 0 -> h.column();
            case 1 -> h.least();
            case 2 -> h.most();
            case 3 -> h.words.get("break");
            case 4 -> h.words.get("wide");
            case 5 -> h.feasts.contains(day % 30) ? 1 : 0;
            default -> h.forms.size();
        };
    }

    // ---- verses

    int verse() {
        if (w.verses.size() == 10) return FULL;
        String tape = w.tape;
        w.tape = "";
        for (int i = 0; i < tape.length(); i++) {
            char c = tape.charAt(i);
            boolean good = in('a', c, 'z') || c == ' ' && i > 0 && tape.charAt(i - 1) != ' ';
            if (i >= 60 || !good) return -10 - i;
        }
        if (tape.isEmpty() || tape.endsWith(" ")) return -10 - tape.length();
        w.verses.add(tape);
        return w.verses.size() - 1;
    }

    /** A row of pieces as signs, of which the one that is ahead is less: A B C a form of three, of two, a letter, D a break. */
    record Best(int ugly, String row) {
        Best behind(int more, char piece) {
            return new Best(ugly + more, piece + row);
        }

        static Best better(Best a, Best b) {
            if (a == null || b == null) return a == null ? b : a;
            if (a.ugly != b.ugly) return a.ugly < b.ugly ? a : b;
            return a.row.compareTo(b.row) < 0 ? a : b;
        }
    }

    final class Set_ {
        final String verse;
        final Holds h;
        final Map<List<Integer>, Best> known = new HashMap<>();
        final Best best;
        final int[] needs = new int[27];
        final List<Integer> begins = new ArrayList<>(List.of(0));
        final Set<Integer> alone = new HashSet<>();
        int forms = 0;

        Set_(int verse, int day, Way more) {
            this.verse = w.verses.get(verse);
            h = new Holds(day, more);
            best = rest(0, 0, 0);
            if (best != null) unroll();
        }

        Best rest(int at, int width, int pieces) {
            if (width > h.column()) return null;
            if (at == verse.length()) return new Best(0, "");
            List<Integer> key = List.of(at, width, pieces);
            if (!known.containsKey(key)) known.put(key, find(at, width, pieces));
            return known.get(key);
        }

        Best find(int at, int width, int pieces) {
            Best best = null;
            if (verse.charAt(at) == ' ') {
                for (int blank = h.least(); blank <= h.most(); blank++) {
                    Best b = rest(at + 1, width + blank, 0);
                    int ugly = h.words.get("wide") * (blank - h.least());
                    best = Best.better(best, b == null ? null : b.behind(ugly, (char) ('0' + blank)));
                }
                Best b = width == h.column() ? rest(at + 1, 0, 0) : null;
                return Best.better(best, b == null ? null : b.behind(0, '|'));
            }
            for (int size = 1; size <= 3 && at + size <= verse.length(); size++) {
                String letters = verse.substring(at, at + size);
                Form form = size == 1 ? new Form(letters, w.widths[letters.charAt(0) - 'a'], 0) : h.forms.get(letters);
                Best b = form == null ? null : rest(at + size, width + form.width, pieces + 1);
                best = Best.better(best, b == null ? null : b.behind(form.ugly, "?CBA".charAt(size)));
            }
            if (pieces >= 2 && width + w.widths[26] == h.column()) {
                Best b = rest(at, 0, 0);
                best = Best.better(best, b == null ? null : b.behind(h.words.get("break"), 'D'));
            }
            return best;
        }

        void unroll() {
            int at = 0;
            for (char piece : best.row.toCharArray()) {
                if (piece == 'D' || piece == '|') {
                    at += piece == 'D' ? 0 : 1;
                    begins.add(at);
                    needs[26] += piece == 'D' ? 1 : 0;
                } else if (piece == 'C') {
                    needs[verse.charAt(at) - 'a']++;
                    alone.add(at++);
                } else if (piece == 'A' || piece == 'B') {
                    forms++;
                    at += piece == 'A' ? 3 : 2;
                } else {
                    at++;
                }
            }
        }

        int lacks() {
            for (int sort = 0; sort < 27; sort++) {
                if (w.inCase[sort] < needs[sort]) return sort;
            }
            return -5;
        }

        int spares() {
            int least = Integer.MAX_VALUE;
            for (String letters : h.forms.keySet()) {
                for (int at = verse.indexOf(letters); at >= 0; at = verse.indexOf(letters, at + 1)) {
                    boolean all = true;
                    for (int i = 0; i < letters.length(); i++) all &= alone.contains(at + i);
                    if (!all || letters.indexOf((char) ('a' + lacks())) < 0) continue;
                    int third = letters.length() == 3 ? letters.charAt(2) - 'a' : 99;
                    least = Math.min(least, 10000 * (letters.charAt(0) - 'a') + 100 * (letters.charAt(1) - 'a') + third);
                }
            }
            return least == Integer.MAX_VALUE ? -5 : least;
        }
    }

    // ---- settings

    int line(int verse, int day, int what) {
        if (!in(0, verse, w.verses.size() - 1) || what < 0 || in(4, what, 9)) return NONE;
        if (!in(0, day, 999)) return BAD;
        Set_ s = new Set_(verse, day, null);
        if (s.best == null) return -9;
        return switch (what) {
            case 0 -> s.best.ugly;
            case 1 -> s.begins.size();
            case 2 -> s.forms;
            case 3 -> s.needs[26];
            default -> what - 10 < s.begins.size() ? s.begins.get(what - 10) : NONE;
        };
    }

    int needs(int verse, int day, int sort) {
        if (!in(0, verse, w.verses.size() - 1) || !in(0, sort, 26)) return NONE;
        if (!in(0, day, 999)) return BAD;
        Set_ s = new Set_(verse, day, null);
        return s.best == null ? -9 : s.needs[sort];
    }

    int enough(int verse, int what) {
        if (!in(0, verse, w.verses.size() - 1) || !in(0, what, 2)) return NONE;
        Set_ s = new Set_(verse, w.today, null);
        if (s.best == null) return -9;
        if (what == 0) return s.lacks() == -5 ? 1 : 0;
        if (what == 1) return s.lacks();
        return s.lacks() == -5 ? -5 : s.spares();
    }

    int page(int verse) {
        if (!in(0, verse, w.verses.size() - 1)) return NONE;
        if (w.pages.size() == 20) return FULL;
        Set_ s = new Set_(verse, w.today, null);
        if (s.best == null) return -9;
        if (s.lacks() != -5) return STATE;
        Page page = new Page();
        page.needs = s.needs;
        for (int sort = 0; sort < 27; sort++) w.inCase[sort] -= s.needs[sort];
        w.pages.add(page);
        return w.pages.size() - 1;
    }

    int pull(int page, int n) {
        if (!in(0, page, w.pages.size() - 1)) return NONE;
        if (!in(1, n, 500)) return BAD;
        if (!w.pages.get(page).stands) return STATE;
        return w.pages.get(page).pulls += n;
    }

    int down(int page) {
        if (!in(0, page, w.pages.size() - 1)) return NONE;
        Page p = w.pages.get(page);
        if (!p.stands) return STATE;
        p.stands = false;
        int gone = 0;
        for (int sort = 0; sort < 27; sort++) {
            int lost = (int) Math.min(p.needs[sort], (long) p.needs[sort] * p.pulls / 10000);
            w.pot[sort] += lost;
            w.inCase[sort] += p.needs[sort] - lost;
            gone += lost;
        }
        return gone;
    }

    // ---- presses

    int press(int press, int n) {
        if (!in(0, press, 3)) return NONE;
        if (!in(0, n, 99)) return BAD;
        int was = w.rates[press];
        w.rates[press] = n;
        return was;
    }

    int freeFrom(int press) {
        int free = 0;
        for (Job job : w.jobs) {
            if (job.press == press) free = job.done == -5 ? Integer.MAX_VALUE : job.done;
        }
        return Math.max(free, w.today);
    }

    int order(int page, int n) {
        if (!in(0, page, w.pages.size() - 1)) return NONE;
        if (!in(1, n, 999)) return BAD;
        int press = -1;
        for (int p = 3; p >= 0; p--) {
            if (w.rates[p] > 0 && (press < 0 || freeFrom(p) <= freeFrom(press))) press = p;
        }
        if (press < 0) return STATE;
        if (w.jobs.size() == 12) return FULL;
        int needed = (n + w.rates[press] - 1) / w.rates[press];
        List<Integer> days = new ArrayList<>();
        for (int d = 0; d < 1000 && days.size() < needed; d++) {
            if (d >= freeFrom(press) && !new Holds(d, null).feasts.contains(d % 30)) days.add(d);
        }
        int first = days.isEmpty() ? -5 : days.get(0);
        w.jobs.add(new Job(press, first, days.size() < needed ? -5 : days.get(needed - 1) + 1));
        return w.jobs.size() - 1;
    }

    int done(int job, int what) {
        if (!in(0, job, w.jobs.size() - 1) || !in(0, what, 2)) return NONE;
        Job j = w.jobs.get(job);
        return what == 0 ? j.press : what == 1 ? j.first : j.done;
    }

    // ---- leaves

    static int parent(int kind) {
        return new int[] {-1, 0, 0, 0, 0, 2, 1}[kind];
    }

    int leaf(int kind, int p, int h, int town) {
        if (!in(0, kind, 6) || !in(0, town, 9)) return NONE;
        if (!in(0, p, 29) || !in(0, h, 255)) return BAD;
        if (w.leaves.size() == 40) return FULL;
        w.leaves.add(new Leaf(kind, p, h, town));
        return w.leaves.size() - 1;
    }

    static int costs(Leaf leaf, int kind) {
        return switch (kind) {
            case 0 -> 10;
            case 1 -> costs(leaf, 0) * 2;
            case 2 -> costs(leaf, 0) + 50;
            case 3 -> costs(leaf, 0) + leaf.h % 7;
            case 4 -> 0;
            case 5 -> costs(leaf, 2) + 3 * leaf.p;
            default -> costs(leaf, 1) - 5;
        };
    }

    static int face(Leaf leaf, int kind) {
        return switch (kind) {
            case 0 -> leaf.p;
            case 2 -> costs(leaf, leaf.kind) - leaf.p;
            case 4 -> -1;
            case 6 -> face(leaf, 0) + 100;
            default -> face(leaf, parent(kind));
        };
    }

    int shows(int leaf, int what) {
        if (!in(0, leaf, w.leaves.size() - 1) || !in(0, what, 1)) return NONE;
        Leaf l = w.leaves.get(leaf);
        return what == 0 ? costs(l, l.kind) : face(l, l.kind);
    }

    int as(int leaf, int k) {
        if (!in(0, leaf, w.leaves.size() - 1) || !in(0, k, 6)) return NONE;
        for (int kind = w.leaves.get(leaf).kind; kind >= 0; kind = parent(kind)) {
            if (kind == k) return w.leaves.get(leaf).p;
        }
        return -6;
    }

    int copies(int towns) {
        if (!in(0, towns, 1023)) return BAD;
        Map<Integer, Map<Integer, Integer>> times = new HashMap<>();
        for (Leaf l : w.leaves) {
            if (l.kind == 4 || (towns & 1 << l.town) == 0) continue;
            times.computeIfAbsent(l.h, h -> new HashMap<>()).merge(l.p, 1, Integer::sum);
        }
        return times.values().stream().mapToInt(m -> m.values().stream().mapToInt(n -> n).max().orElse(0)).sum();
    }

    // ---- states, hands, runs

    int state(int bits) {
        if (!in(0, bits, 65535)) return BAD;
        if (w.states.contains(bits)) return STATE;
        if (w.states.size() == 7) return FULL;
        w.states.add(bits);
        return w.states.size() - 1;
    }

    static List<List<Integer>> orders(int n) {
        if (n == 0) return List.of(List.of());
        List<List<Integer>> all = new ArrayList<>();
        for (List<Integer> less : orders(n - 1)) {
            for (int i = 0; i <= less.size(); i++) {
                List<Integer> more = new ArrayList<>(less);
                more.add(i, n - 1);
                all.add(more);
            }
        }
        return all;
    }

    static int compare(List<Integer> a, List<Integer> b) {
        return Arrays.compare(a.stream().mapToInt(i -> i).toArray(), b.stream().mapToInt(i -> i).toArray());
    }

    boolean isAllowed(List<Integer> order) {
        for (int bit = 0; bit < 16; bit++) {
            int changes = 0;
            for (int i = 1; i < order.size(); i++) {
                changes += (w.states.get(order.get(i)) ^ w.states.get(order.get(i - 1))) >> bit & 1;
            }
            if (changes > 1) return false;
        }
        return true;
    }

    int allowed(int i) {
        if (!in(-1, i, w.states.size() - 1)) return NONE;
        List<List<Integer>> good = new ArrayList<>(orders(w.states.size()));
        good.removeIf(o -> !isAllowed(o));
        if (i < 0) return good.size();
        return good.stream().min(Model::compare).map(o -> o.get(i)).orElse(NONE);
    }

    int hand(int habits) {
        if (!in(0, habits, 9999)) return BAD;
        if (w.hands.size() == 10) return FULL;
        w.hands.add(habits);
        return w.hands.size() - 1;
    }

    boolean alike(int a, int b, int d) {
        String x = String.format("%04d", w.hands.get(a)), y = String.format("%04d", w.hands.get(b));
        int sum = 0;
        for (int i = 0; i < 4; i++) sum += Math.abs(x.charAt(i) - y.charAt(i));
        return sum <= d;
    }

    void share(int page, List<List<Integer>> sets, int d, Map<Integer, Integer> found) {
        if (page == w.hands.size()) {
            found.merge(sets.size(), 1, Integer::sum);
            return;
        }
        for (int i = 0; i <= sets.size(); i++) {
            if (i == sets.size()) {
                sets.add(new ArrayList<>(List.of(page)));
                share(page + 1, sets, d, found);
                sets.remove(i);
            } else if (sets.get(i).stream().allMatch(other -> alike(page, other, d))) {
                sets.get(i).add(page);
                share(page + 1, sets, d, found);
                sets.get(i).remove(sets.get(i).size() - 1);
            }
        }
    }

    int rival(int d, int what) {
        if (!in(0, what, 1)) return NONE;
        if (!in(0, d, 36)) return BAD;
        TreeMap<Integer, Integer> found = new TreeMap<>();
        share(0, new ArrayList<>(), d, found);
        return what == 0 ? found.firstKey() : found.get(found.firstKey());
    }

    int ahead(int a, int b) {
        if (!in(0, a, 9) || !in(0, b, 9)) return NONE;
        if (a == b) return BAD;
        if (w.rules.contains(new Rule(a, b))) return STATE;
        if (w.rules.size() == 30) return FULL;
        w.rules.add(new Rule(a, b));
        return w.rules.size();
    }

    int found, begins;
    int[] last;

    void print(int n, int[] row, int size, Set<Integer> used) {
        if (size == n) {
            found++;
            begins |= 1 << row[0];
            if (last == null || Arrays.compare(row, last) > 0) last = row.clone();
            return;
        }
        for (int page = 0; page < n; page++) {
            int next = page;
            if (used.contains(page) || w.rules.stream().anyMatch(r -> r.b == next && r.a < n && !used.contains(r.a))) continue;
            row[size] = page;
            used.add(page);
            print(n, row, size + 1, used);
            used.remove(page);
        }
    }

    int runs(int n, int what) {
        if (!in(0, what, 1) && !in(10, what, 19)) return NONE;
        if (!in(1, n, 10)) return BAD;
        if (what - 10 >= n) return NONE;
        found = 0;
        begins = 0;
        last = null;
        print(n, new int[n], 0, new HashSet<>());
        if (what == 0) return found;
        if (what == 1) return begins;
        return last == null ? NONE : last[what - 10];
    }

    // ---- loans

    int loan(int coins, int day, int hundredths) {
        if (!in(1, coins, 9999) || !in(0, day, 999) || !in(0, hundredths, 40)) return BAD;
        if (w.loans.size() == 6) return FULL;
        w.loans.add(new Loan(coins, day, hundredths));
        return w.loans.size() - 1;
    }

    int pay(int loan, int day, int coins) {
        if (!in(0, loan, w.loans.size() - 1)) return NONE;
        if (!in(w.loans.get(loan).day, day, 999) || !in(1, coins, 9999)) return BAD;
        if (w.paid.size() == 20) return FULL;
        w.paid.add(new Paid(loan, day, coins));
        return w.paid.stream().filter(p -> p.loan == loan && p.day == day).mapToInt(Paid::coins).sum();
    }

    int owe(int loan, int day) {
        if (!in(0, loan, w.loans.size() - 1)) return NONE;
        if (!in(0, day, 999)) return BAD;
        Loan l = w.loans.get(loan);
        int owed = l.coins;
        for (int d = l.day; d <= day; d++) {
            for (Paid p : w.paid) {
                if (p.loan == loan && p.day == d) owed = Math.max(0, owed - p.coins);
            }
            if (d > l.day && (d - l.day) % 360 == 0) owed += owed * l.hundredths / 100;
        }
        return day < l.day ? 0 : owed;
    }

    int thing(int thing, int worth) {
        if (!in(0, thing, 7)) return NONE;
        if (!in(0, worth, 9999)) return BAD;
        int was = w.worths[thing];
        w.worths[thing] = worth;
        return was;
    }

    int suit(int sum) {
        if (!in(0, sum, 99999)) return BAD;
        long best = Long.MAX_VALUE;
        for (int set = 0; set < 256; set++) {
            long worth = 0;
            for (int i = 0; i < 8; i++) worth += (set >> i & 1) * w.worths[i];
            if (worth >= sum) best = Math.min(best, worth * 1000000 + Integer.bitCount(set) * 1000 + set);
        }
        return best == Long.MAX_VALUE ? -5 : (int) (best % 1000);
    }

    int tried(int verse, int what) {
        if (!in(0, verse, w.verses.size() - 1) || !in(0, what, 1)) return NONE;
        String tape = w.tape;
        w.tape = "";
        int fault = wayFault(tape);
        if (fault >= 0) return -10 - fault;
        Set_ s = new Set_(verse, w.today, wayOf(tape, w.today, w.ways.size()));
        return s.best == null ? -9 : what == 0 ? s.best.ugly : s.begins.size();
    }

    // ---- the image

    int image() {
        try {
            ByteArrayOutputStream bytes = new ByteArrayOutputStream();
            new ObjectOutputStream(bytes).writeObject(w);
            image = bytes.toByteArray();
        } catch (java.io.IOException e) {
            throw new IllegalStateException(e);
        }
        return w.today;
    }

    int undo() {
        if (image == null) return STATE;
        try {
            w = (World) new ObjectInputStream(new ByteArrayInputStream(image)).readObject();
        } catch (java.io.IOException | ClassNotFoundException e) {
            throw new IllegalStateException(e);
        }
        return w.today;
    }

    int count(int what) {
        int[] counts = {w.ways.size(), w.verses.size(), w.pages.size(), (int) w.pages.stream().filter(p -> p.stands).count(),
            w.jobs.size(), w.leaves.size(), w.states.size(), w.hands.size(), w.loans.size(), w.today, w.tape.length()};
        return in(0, what, 10) ? counts[what] : NONE;
    }
}
