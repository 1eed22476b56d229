import java.util.ArrayList;

/**
 * A printer's shop: sorts of lead, the ways of the shop, verses and their settings, pages, presses, leaves, and what
 * they tell. Each call answers a number; a negative one refuses it, and a refused call changes nothing.
 */
public final class LeadLetters {
    public static final int NONE = -1, BAD = -2, STATE = -3, FULL = -4;

    private static final int NOTHING = -5;
    private static final int OTHER_KIND = -6;
    private static final int UNSET = -9;
    private static final int FAULTY = -10;
    private static final int FIRST_PLACE = 10;

    private static final int LAST_DAY = 999;
    private static final int TAPE_ROOM = 120;
    private static final int SORTS = 27;
    private static final int BREAK = 26;
    private static final int NO_THIRD = 99;
    private static final int MOST_CAST = 9999;

    private final Shelf shelf;
    private final Row today;
    private final Row tape;
    private final Ways ways;
    private final Customs customs;
    private final Verses verses;
    private final Stock stock;
    private final Setting setting;
    private final Presses presses;
    private final Leaves leaves;
    private final Evidence evidence;
    private final Loans loans;
    private boolean imaged;

    public LeadLetters() {
        shelf = new Shelf();
        today = shelf.place(1);
        tape = shelf.place(TAPE_ROOM);
        ways = new Ways(shelf, tape);
        customs = new Customs();
        verses = new Verses(shelf);
        stock = new Stock(shelf);
        setting = new Setting(customs, stock.widths);
        presses = new Presses(shelf);
        leaves = new Leaves(shelf);
        evidence = new Evidence(shelf);
        loans = new Loans(shelf);
        imaged = false;
    }

    // ---- sorts, ways, verses

    public int sort(int sort, int width) {
        if (!isSort(sort)) {
            return NONE;
        }
        if (width < 1 || width > 9) {
            return BAD;
        }
        if (stock.standing() > 0) {
            return STATE;
        }
        return stock.widths.swap(sort, width);
    }

    public int cast(int sort, int n) {
        if (!isSort(sort)) {
            return NONE;
        }
        if (n < 1 || n > 999) {
            return BAD;
        }
        if (stock.inCase.at(sort) + n > MOST_CAST) {
            return FULL;
        }
        return stock.castAnew(sort, n);
    }

    public int many(int sort, int what) {
        if (!isSort(sort)) {
            return NONE;
        }
        switch (what) {
            case 0:
                return stock.inCase.at(sort);
            case 1:
                return stock.inPages(sort);
            case 2:
                return stock.inPot.at(sort);
            default:
                return NONE;
        }
    }

    public int day(int n) {
        if (n < 1 || n > 99 || now() + n > LAST_DAY) {
            return BAD;
        }
        today.add(0, n);
        return now();
    }

    public int feed(long w, int n) {
        if (n < 1 || n > 8) {
            return BAD;
        }
        if (tape.size() + n > TAPE_ROOM) {
            return FULL;
        }
        for (int i = n - 1; i >= 0; i--) {
            tape.push((int) (w >>> (8 * i) & 255));
        }
        return tape.size();
    }

    public int text(int day) {
        if (!isDay(day)) {
            return BAD;
        }
        if (ways.isFull()) {
            return FULL;
        }
        int fault = ways.read();
        tape.clear();
        return fault >= 0 ? FAULTY - fault : ways.accept(day);
    }

    public int force(int word, int day) {
        if (word < 0 || word > 6) {
            return NONE;
        }
        if (!isDay(day)) {
            return BAD;
        }
        if (word == 5) {
            return ways.isFeast(day) ? 1 : 0;
        }
        customs.gather(ways, day, false);
        return customs.told(word);
    }

    public int verse() {
        if (verses.isFull()) {
            return FULL;
        }
        int fault = verses.faultOf(tape);
        if (fault >= 0) {
            tape.clear();
            return FAULTY - fault;
        }
        int verse = verses.accept(tape);
        tape.clear();
        return verse;
    }

    // ---- settings

    public int line(int verse, int day, int what) {
        if (!verses.has(verse) || what < 0 || (what > 3 && what < FIRST_PLACE)) {
            return NONE;
        }
        if (!isDay(day)) {
            return BAD;
        }
        if (!isSet(verse, day, false)) {
            return UNSET;
        }
        switch (what) {
            case 0:
                return setting.ugly;
            case 1:
                return setting.lines;
            case 2:
                return setting.forms;
            case 3:
                return setting.needs.at(BREAK);
            default:
                return what - FIRST_PLACE < setting.lines ? setting.begins.at(what - FIRST_PLACE) : NONE;
        }
    }

    public int needs(int verse, int day, int sort) {
        if (!verses.has(verse) || !isSort(sort)) {
            return NONE;
        }
        if (!isDay(day)) {
            return BAD;
        }
        return isSet(verse, day, false) ? setting.needs.at(sort) : UNSET;
    }

    public int enough(int verse, int what) {
        if (!verses.has(verse) || what < 0 || what > 2) {
            return NONE;
        }
        if (!isSet(verse, now(), false)) {
            return UNSET;
        }
        int lacking = stock.lacking(setting.needs);
        if (what == 0) {
            return lacking == NOTHING ? 1 : 0;
        }
        return what == 1 ? lacking : setting.sparing(lacking);
    }

    public int page(int verse) {
        if (!verses.has(verse)) {
            return NONE;
        }
        if (stock.hasAllPages()) {
            return FULL;
        }
        if (!isSet(verse, now(), false)) {
            return UNSET;
        }
        return stock.lacking(setting.needs) == NOTHING ? stock.putUp(setting.needs) : STATE;
    }

    public int pull(int page, int n) {
        if (!stock.hasPage(page)) {
            return NONE;
        }
        if (n < 1 || n > 500) {
            return BAD;
        }
        if (!stock.stands(page)) {
            return STATE;
        }
        stock.pulls.add(page, n);
        return stock.pulls.at(page);
    }

    public int down(int page) {
        if (!stock.hasPage(page)) {
            return NONE;
        }
        return stock.stands(page) ? stock.takeDown(page) : STATE;
    }

    // ---- presses

    public int press(int press, int n) {
        if (press < 0 || press >= Presses.PRESSES) {
            return NONE;
        }
        if (n < 0 || n > 99) {
            return BAD;
        }
        return presses.rates.swap(press, n);
    }

    public int order(int page, int n) {
        if (!stock.hasPage(page)) {
            return NONE;
        }
        if (n < 1 || n > 999) {
            return BAD;
        }
        int press = presses.firstFree(now());
        if (press < 0) {
            return STATE;
        }
        return presses.jobPresses.isFull() ? FULL : presses.give(press, n, now(), ways);
    }

    public int done(int job, int what) {
        if (job < 0 || job >= presses.jobPresses.size()) {
            return NONE;
        }
        switch (what) {
            case 0:
                return presses.jobPresses.at(job);
            case 1:
                return presses.jobFirsts.at(job);
            case 2:
                return presses.jobEnds.at(job);
            default:
                return NONE;
        }
    }

    // ---- leaves

    public int leaf(int kind, int p, int h, int town) {
        if (!Leaves.isKind(kind) || town < 0 || town >= Leaves.TOWNS) {
            return NONE;
        }
        if (p < 0 || p > 29 || h < 0 || h > 255) {
            return BAD;
        }
        return leaves.kinds.isFull() ? FULL : leaves.lay(kind, p, h, town);
    }

    public int shows(int leaf, int what) {
        if (!leaves.has(leaf)) {
            return NONE;
        }
        switch (what) {
            case 0:
                return leaves.costOf(leaf);
            case 1:
                return leaves.faceOf(leaf);
            default:
                return NONE;
        }
    }

    public int as(int leaf, int k) {
        if (!leaves.has(leaf) || !Leaves.isKind(k)) {
            return NONE;
        }
        return Leaves.isUnder(leaves.kinds.at(leaf), k) ? leaves.pages.at(leaf) : OTHER_KIND;
    }

    public int copies(int towns) {
        return towns < 0 || towns >= 1 << Leaves.TOWNS ? BAD : leaves.fewestCopies(towns);
    }

    // ---- states, hands, runs

    public int state(int bits) {
        if (bits < 0 || bits > 65535) {
            return BAD;
        }
        if (evidence.states.has(bits)) {
            return STATE;
        }
        return evidence.states.number(bits);
    }

    public int allowed(int i) {
        if (i < -1 || i >= evidence.states.size()) {
            return NONE;
        }
        int orders = evidence.countStateOrders();
        if (i < 0) {
            return orders;
        }
        return orders > 0 ? evidence.firstOrder.at(i) : NONE;
    }

    public int hand(int habits) {
        return habits < 0 || habits > 9999 ? BAD : evidence.habits.number(habits);
    }

    public int rival(int d, int what) {
        if (what < 0 || what > 1) {
            return NONE;
        }
        if (d < 0 || d > 36) {
            return BAD;
        }
        evidence.findHands(d);
        return what == 0 ? evidence.hands() : evidence.rivals();
    }

    public int ahead(int a, int b) {
        if (!Evidence.isPrinted(a) || !Evidence.isPrinted(b)) {
            return NONE;
        }
        if (a == b) {
            return BAD;
        }
        if (evidence.rules.has(Evidence.rule(a, b))) {
            return STATE;
        }
        return evidence.rules.number(Evidence.rule(a, b)) < 0 ? FULL : evidence.rules.size();
    }

    public int runs(int n, int what) {
        // What no row of any n has is told ahead of a bad n; how long the row is, only a good n tells.
        if (what < 0 || (what > 1 && what < FIRST_PLACE) || what >= FIRST_PLACE + Evidence.PRINTED) {
            return NONE;
        }
        if (n < 1 || n > Evidence.PRINTED) {
            return BAD;
        }
        if (what - FIRST_PLACE >= n) {
            return NONE;
        }
        int runs = evidence.countRuns(n);
        if (what == 0) {
            return runs;
        }
        if (what == 1) {
            return runs > 0 ? evidence.beginnings(n) : 0;
        }
        return runs > 0 ? evidence.lastOne(n, what - FIRST_PLACE) : NONE;
    }

    // ---- loans

    public int loan(int coins, int day, int hundredths) {
        if (coins < 1 || coins > 9999 || !isDay(day) || hundredths < 0 || hundredths > 40) {
            return BAD;
        }
        return loans.coins.isFull() ? FULL : loans.lend(coins, day, hundredths);
    }

    public int pay(int loan, int day, int coins) {
        if (!loans.has(loan)) {
            return NONE;
        }
        if (!isDay(day) || day < loans.days.at(loan) || coins < 1 || coins > 9999) {
            return BAD;
        }
        return loans.paidCoins.isFull() ? FULL : loans.payBack(loan, day, coins);
    }

    public int owe(int loan, int day) {
        if (!loans.has(loan)) {
            return NONE;
        }
        return isDay(day) ? loans.owed(loan, day) : BAD;
    }

    public int thing(int thing, int worth) {
        if (thing < 0 || thing >= Loans.THINGS) {
            return NONE;
        }
        return worth < 0 || worth > 9999 ? BAD : loans.worths.swap(thing, worth);
    }

    public int suit(int sum) {
        return sum < 0 || sum > 99999 ? BAD : loans.leastSet(sum);
    }

    public int tried(int verse, int what) {
        if (!verses.has(verse) || what < 0 || what > 1) {
            return NONE;
        }
        int fault = ways.read();
        tape.clear();
        if (fault >= 0) {
            return FAULTY - fault;
        }
        if (!isSet(verse, now(), true)) {
            return UNSET;
        }
        return what == 0 ? setting.ugly : setting.lines;
    }

    // ---- the image

    public int image() {
        shelf.keep();
        imaged = true;
        return now();
    }

    public int undo() {
        if (!imaged) {
            return STATE;
        }
        shelf.bringBack();
        return now();
    }

    public int count(int what) {
        switch (what) {
            case 0:
                return ways.days.size();
            case 1:
                return verses.sizes.size();
            case 2:
                return stock.pulls.size();
            case 3:
                return stock.standing();
            case 4:
                return presses.jobPresses.size();
            case 5:
                return leaves.kinds.size();
            case 6:
                return evidence.states.size();
            case 7:
                return evidence.habits.size();
            case 8:
                return loans.coins.size();
            case 9:
                return now();
            case 10:
                return tape.size();
            default:
                return NONE;
        }
    }

    private int now() {
        return today.at(0);
    }

    private static boolean isSort(int sort) {
        return sort >= 0 && sort < SORTS;
    }

    private static boolean isDay(int day) {
        return day >= 0 && day <= LAST_DAY;
    }

    private boolean isSet(int verse, int day, boolean withTrial) {
        customs.gather(ways, day, withTrial);
        verses.copyTo(verse, setting.letters);
        return setting.find();
    }

    /** Numbers in a row. It looks at every index itself, so that none of its users can reach beside it. */
    private static final class Row {
        private final int[] cells;
        private int size;

        Row(int room) {
            cells = new int[room > 0 ? room : 0];
            size = 0;
        }

        int at(int i) {
            return i >= 0 && i < cells.length ? cells[i] : 0;
        }

        void put(int i, int value) {
            if (i >= 0 && i < cells.length) {
                cells[i] = value;
            }
        }

        void add(int i, int more) {
            put(i, at(i) + more);
        }

        int swap(int i, int value) {
            int was = at(i);
            put(i, value);
            return was;
        }

        void fill(int value) {
            for (int i = 0; i < cells.length; i++) {
                cells[i] = value;
            }
        }

        int size() {
            return size;
        }

        boolean isFull() {
            return size >= cells.length;
        }

        void push(int value) {
            if (size >= 0 && size < cells.length) {
                cells[size] = value;
                size++;
            }
        }

        /** Puts a value behind the others: its number, or FULL. */
        int number(int value) {
            if (size < 0 || size >= cells.length) {
                return FULL;
            }
            cells[size] = value;
            size++;
            return size - 1;
        }

        /** The first place of a value, or NONE. */
        int indexOf(int value) {
            for (int i = 0; i < size && i < cells.length; i++) {
                if (cells[i] == value) {
                    return i;
                }
            }
            return NONE;
        }

        boolean has(int value) {
            return indexOf(value) >= 0;
        }

        void shorten() {
            size = size > 0 ? size - 1 : 0;
        }

        void clear() {
            size = 0;
        }

        static void copy(Row from, Row to) {
            if (from == null || to == null || from.cells.length != to.cells.length) {
                return;
            }
            System.arraycopy(from.cells, 0, to.cells, 0, from.cells.length);
            to.size = from.size;
        }
    }

    /** All rows that THE IMAGE is of, each with its copy: a row that is no part of it is made elsewhere. */
    private static final class Shelf {
        private final ArrayList<Row> rows;
        private final ArrayList<Row> copies;

        Shelf() {
            rows = new ArrayList<Row>();
            copies = new ArrayList<Row>();
        }

        Row place(int room) {
            Row row = new Row(room);
            rows.add(row);
            copies.add(new Row(room));
            return row;
        }

        void keep() {
            for (int i = 0; i < rows.size() && i < copies.size(); i++) {
                Row.copy(rows.get(i), copies.get(i));
            }
        }

        void bringBack() {
            for (int i = 0; i < rows.size() && i < copies.size(); i++) {
                Row.copy(copies.get(i), rows.get(i));
            }
        }
    }

    /** THE WAYS as clauses, and the reading of them: the slot behind the last WAY is for the next one. */
    private static final class Ways {
        private static final int WAYS = 8;
        private static final int CLAUSES = 8;
        private static final int MONTH = 30;
        private static final int COLUMN = 0, LEAST = 1, MOST = 2, BROKEN = 3, WIDE = 4, FEAST = 5, FORM = 6, BAR = 7;
        private static final int WORDS = 8;

        private final Row tape;
        private final Row days;
        private final Row byDays;
        private final Row feasts;
        private final Row clauseCounts;
        private final Row words;
        private final Row letters;
        private final Row amounts;
        private final Row uglies;
        private int place;

        Ways(Shelf shelf, Row tape) {
            this.tape = tape;
            days = shelf.place(WAYS);
            byDays = shelf.place(WAYS);
            feasts = shelf.place(WAYS + 1);
            clauseCounts = shelf.place(WAYS + 1);
            words = shelf.place((WAYS + 1) * CLAUSES);
            letters = shelf.place((WAYS + 1) * CLAUSES);
            amounts = shelf.place((WAYS + 1) * CLAUSES);
            uglies = shelf.place((WAYS + 1) * CLAUSES);
            place = 0;
        }

        boolean isFull() {
            return days.isFull();
        }

        /** Where the next WAY is read into, and where a tried one stays. */
        int nextSlot() {
            return days.size();
        }

        /** Makes the way that was read the next one of THE WAYS, in its place by days. */
        int accept(int day) {
            int way = days.number(day);
            byDays.push(way);
            for (int i = way; i > 0 && days.at(byDays.at(i - 1)) > day; i--) {
                byDays.put(i, byDays.swap(i - 1, way));
            }
            return way;
        }

        boolean isFeast(int day) {
            for (int way = 0; way < days.size(); way++) {
                if (days.at(way) <= day && (feasts.at(way) >> Math.floorMod(day, MONTH) & 1) != 0) {
                    return true;
                }
            }
            return false;
        }

        /** Reads THE TAPE into the next slot: the place of the FAULT, or NONE. */
        int read() {
            int slot = nextSlot();
            feasts.put(slot, 0);
            place = 0;
            for (int i = 0; i < CLAUSES; i++) {
                if (!readClause(slot, slot * CLAUSES + i)) {
                    return place;
                }
                clauseCounts.put(slot, i + 1);
                if (place >= tape.size()) {
                    return NONE;
                }
                if (next() != ';' || i == CLAUSES - 1) {
                    return place;
                }
                place++;
            }
            return place;
        }

        private boolean readClause(int slot, int clause) {
            int word = readWord();
            if (word < 0 || !readBlank()) {
                return false;
            }
            words.put(clause, word);
            switch (word) {
                case FORM:
                    return readLetters(clause) && readBlank() && readFigure(1, amounts, clause)
                        && readBlank() && readFigure(0, uglies, clause);
                case BAR:
                    return readLetters(clause);
                case BROKEN:
                case WIDE:
                    return readFigure(0, amounts, clause);
                case FEAST:
                    return readNumber(clause) && addFeast(slot, amounts.at(clause));
                default:
                    return readNumber(clause);
            }
        }

        /** No DAY modulo 30 is 30 or more: such a feast is a CLAUSE, but makes no FEAST. */
        private boolean addFeast(int slot, int n) {
            if (n >= 0 && n < MONTH) {
                feasts.put(slot, feasts.at(slot) | 1 << n);
            }
            return true;
        }

        /** Where no word stands, the place goes to the first byte that none of them has there. */
        private int readWord() {
            int farthest = 0;
            for (int word = 0; word < WORDS; word++) {
                String spelling = spellingOf(word);
                int same = sameBytes(spelling);
                if (same == spelling.length()) {
                    place += same;
                    return word;
                }
                farthest = Math.max(farthest, same);
            }
            place += farthest;
            return NONE;
        }

        private int sameBytes(String spelling) {
            for (int i = 0; i < spelling.length(); i++) {
                if (place + i >= tape.size() || tape.at(place + i) != spelling.charAt(i)) {
                    return i;
                }
            }
            return spelling.length();
        }

        private boolean readBlank() {
            if (next() != ' ') {
                return false;
            }
            place++;
            return true;
        }

        private boolean readLetters(int clause) {
            int number = 0;
            for (int i = 0; i < 2; i++) {
                if (!isLetter(next())) {
                    return false;
                }
                number = number * 100 + next() - 'a';
                place++;
            }
            int third = NO_THIRD;
            if (isLetter(next())) {
                third = next() - 'a';
                place++;
            }
            letters.put(clause, number * 100 + third);
            return true;
        }

        private boolean readFigure(int least, Row row, int clause) {
            int figure = next() - '0';
            if (figure < least || figure > 9) {
                return false;
            }
            row.put(clause, figure);
            place++;
            return true;
        }

        private boolean readNumber(int clause) {
            if (!readFigure(0, amounts, clause)) {
                return false;
            }
            int first = amounts.at(clause);
            if (first > 0 && readFigure(0, amounts, clause)) {
                amounts.add(clause, 10 * first);
            }
            return true;
        }

        private int next() {
            return place < tape.size() ? tape.at(place) : NONE;
        }

        private static boolean isLetter(int sign) {
            return sign >= 'a' && sign <= 'z';
        }

        private static String spellingOf(int word) {
            switch (word) {
                case COLUMN:
                    return "column";
                case LEAST:
                    return "least";
                case MOST:
                    return "most";
                case BROKEN:
                    return "break";
                case WIDE:
                    return "wide";
                case FEAST:
                    return "feast";
                case FORM:
                    return "form";
                default:
                    return "bar";
            }
        }
    }

    /** What holds on a DAY by THE WAYS of it. */
    private static final class Customs {
        private static final int MOST_FORMS = (Ways.WAYS + 1) * Ways.CLAUSES;

        private int column;
        private int least;
        private int most;
        private int broken;
        private int wide;
        private final Row formLetters;
        private final Row formWidths;
        private final Row formUglies;

        Customs() {
            formLetters = new Row(MOST_FORMS);
            formWidths = new Row(MOST_FORMS);
            formUglies = new Row(MOST_FORMS);
        }

        /** The trial is the WAY that was read last, none of THE WAYS: it is from TODAY on and of the last number. */
        void gather(Ways ways, int day, boolean withTrial) {
            column = 12;
            least = 1;
            most = 3;
            broken = 5;
            wide = 1;
            formLetters.clear();
            for (int i = 0; i < ways.byDays.size(); i++) {
                int way = ways.byDays.at(i);
                if (ways.days.at(way) <= day) {
                    take(ways, way);
                }
            }
            if (withTrial) {
                take(ways, ways.nextSlot());
            }
            column = within(10, column, 40);
            least = within(1, least, 9);
            most = Math.max(least, within(1, most, 9));
        }

        int told(int word) {
            switch (word) {
                case 0:
                    return column;
                case 1:
                    return least;
                case 2:
                    return most;
                case 3:
                    return broken;
                case 4:
                    return wide;
                default:
                    return formLetters.size();
            }
        }

        private void take(Ways ways, int way) {
            for (int i = 0; i < ways.clauseCounts.at(way); i++) {
                takeClause(ways, way * Ways.CLAUSES + i);
            }
        }

        private void takeClause(Ways ways, int clause) {
            int amount = ways.amounts.at(clause);
            switch (ways.words.at(clause)) {
                case Ways.COLUMN:
                    column = amount;
                    break;
                case Ways.LEAST:
                    least = amount;
                    break;
                case Ways.MOST:
                    most = amount;
                    break;
                case Ways.BROKEN:
                    broken = amount;
                    break;
                case Ways.WIDE:
                    wide = amount;
                    break;
                case Ways.FORM:
                    putForm(ways.letters.at(clause), amount, ways.uglies.at(clause));
                    break;
                case Ways.BAR:
                    barForm(ways.letters.at(clause));
                    break;
                default:
                    break;
            }
        }

        private void putForm(int letters, int width, int ugly) {
            int form = formLetters.indexOf(letters);
            if (form < 0) {
                form = formLetters.number(letters);
            }
            formWidths.put(form, width);
            formUglies.put(form, ugly);
        }

        private void barForm(int letters) {
            int form = formLetters.indexOf(letters);
            if (form < 0) {
                return;
            }
            int last = formLetters.size() - 1;
            formLetters.put(form, formLetters.at(last));
            formWidths.put(form, formWidths.at(last));
            formUglies.put(form, formUglies.at(last));
            formLetters.shorten();
        }

        /** The FORM with these letters (as enough() tells them), or NONE. */
        int formOf(int letters) {
            return formLetters.indexOf(letters);
        }

        private static int within(int low, int n, int high) {
            return Math.max(low, Math.min(n, high));
        }
    }

    /** VERSES, each as a row of letters (as SORTS) and blanks. */
    private static final class Verses {
        private static final int VERSES = 10;
        private static final int BYTES = 60;
        private static final int BLANK = -1;

        private final Row sizes;
        private final Row letters;

        Verses(Shelf shelf) {
            sizes = shelf.place(VERSES);
            letters = shelf.place(VERSES * BYTES);
        }

        boolean isFull() {
            return sizes.isFull();
        }

        boolean has(int verse) {
            return verse >= 0 && verse < sizes.size();
        }

        /** The place of the FAULT of a tape as a VERSE, or NONE. */
        int faultOf(Row tape) {
            int size = tape.size();
            for (int i = 0; i < size; i++) {
                if (i == BYTES || !canStand(tape, i)) {
                    return i;
                }
            }
            return size == 0 || tape.at(size - 1) == ' ' ? size : NONE;
        }

        private static boolean canStand(Row tape, int i) {
            int sign = tape.at(i);
            return Ways.isLetter(sign) || (sign == ' ' && i > 0 && tape.at(i - 1) != ' ');
        }

        int accept(Row tape) {
            int verse = sizes.number(tape.size());
            for (int i = 0; i < tape.size() && i < BYTES; i++) {
                int sign = tape.at(i);
                letters.put(verse * BYTES + i, sign == ' ' ? BLANK : sign - 'a');
            }
            return verse;
        }

        void copyTo(int verse, Row row) {
            row.clear();
            for (int i = 0; i < sizes.at(verse); i++) {
                row.push(letters.at(verse * BYTES + i));
            }
        }
    }

    /**
     * THE SETTING of a VERSE. From each place in the verse, width of the line so far and number of the word's pieces in
     * the line (two stand for more) the least UGLY of the rest does not depend on what was set: it is reckoned from the
     * last place back, and THE SETTING then takes at each place the first choice that keeps to it.
     */
    private static final class Setting {
        private static final int WIDTHS = 41;
        private static final int PIECES = 3;
        private static final int NEVER = 1000000;
        private static final int CHOICES = 9;

        private final Customs customs;
        private final Row widths;
        private final Row letters;
        private final Row threes;
        private final Row twos;
        private final Row choiceSizes;
        private final Row choiceWidths;
        private final Row choiceUglies;
        private final Row rest;
        private final Row begins;
        private final Row needs;
        private final Row alone;
        private boolean atBlank;
        private int ugly;
        private int lines;
        private int forms;

        Setting(Customs customs, Row widths) {
            this.customs = customs;
            this.widths = widths;
            letters = new Row(Verses.BYTES);
            threes = new Row(Verses.BYTES);
            twos = new Row(Verses.BYTES);
            choiceSizes = new Row(CHOICES);
            choiceWidths = new Row(CHOICES);
            choiceUglies = new Row(CHOICES);
            rest = new Row((Verses.BYTES + 1) * WIDTHS * PIECES);
            begins = new Row(Verses.BYTES + 1);
            needs = new Row(SORTS);
            alone = new Row(Verses.BYTES);
        }

        /** Finds THE SETTING of the letters by the customs: whether there is one. */
        boolean find() {
            findForms();
            for (int at = letters.size(); at >= 0; at--) {
                reckonPlace(at);
            }
            ugly = rest.at(0);
            if (ugly >= NEVER) {
                return false;
            }
            setOut();
            return true;
        }

        private void findForms() {
            for (int at = 0; at < letters.size(); at++) {
                int pair = letters.at(at) * 100 + letters.at(at + 1);
                twos.put(at, joined(at, 2) ? customs.formOf(pair * 100 + NO_THIRD) : NONE);
                threes.put(at, joined(at, 3) ? customs.formOf(pair * 100 + letters.at(at + 2)) : NONE);
            }
        }

        private boolean joined(int at, int n) {
            for (int i = at; i < at + n; i++) {
                if (i >= letters.size() || isBlank(i)) {
                    return false;
                }
            }
            return true;
        }

        private boolean isBlank(int at) {
            return letters.at(at) == Verses.BLANK;
        }

        /** The places with fewer pieces come first: a line that ends by a break goes on at the same place with none. */
        private void reckonPlace(int at) {
            boolean ended = at >= letters.size();
            listChoices(at);
            for (int pieces = 0; pieces < PIECES; pieces++) {
                for (int width = 0; width <= customs.column; width++) {
                    rest.put(index(at, width, pieces), ended ? 0 : leastUgly(at, width, pieces));
                }
            }
        }

        /** Pieces or blanks that can be next, in the document's order; the end of a line is behind them. */
        private void listChoices(int at) {
            choiceSizes.clear();
            choiceWidths.clear();
            choiceUglies.clear();
            atBlank = isBlank(at);
            if (atBlank) {
                for (int blank = customs.least; blank <= customs.most; blank++) {
                    addChoice(1, blank, customs.wide * (blank - customs.least));
                }
                return;
            }
            int three = threes.at(at);
            int two = twos.at(at);
            addChoice(3, customs.formWidths.at(three), customs.formUglies.at(three));
            addChoice(2, customs.formWidths.at(two), customs.formUglies.at(two));
            addChoice(1, widths.at(letters.at(at)), 0);
        }

        /** A form that does not stand there has no width, as it has no number. */
        private void addChoice(int size, int width, int ugly) {
            if (width > 0) {
                choiceSizes.push(size);
                choiceWidths.push(width);
                choiceUglies.push(ugly);
            }
        }

        private int leastUgly(int at, int width, int pieces) {
            int least = uglyByEnd(at, width, pieces);
            for (int choice = 0; choice < choiceSizes.size(); choice++) {
                least = Math.min(least, uglyBy(at, width, pieces, choice));
            }
            return least;
        }

        private int uglyBy(int at, int width, int pieces, int choice) {
            int wider = width + choiceWidths.at(choice);
            if (wider > customs.column) {
                return NEVER;
            }
            int next = at + choiceSizes.at(choice);
            return choiceUglies.at(choice) + rest.at(index(next, wider, piecesBehind(pieces)));
        }

        /** That a letter stands at the place shows that the piece ahead of it isn't its word's last. */
        private int uglyByEnd(int at, int width, int pieces) {
            if (atBlank) {
                return width == customs.column ? rest.at(index(at + 1, 0, 0)) : NEVER;
            }
            boolean canBreak = pieces == 2 && width + widths.at(BREAK) == customs.column;
            return canBreak ? customs.broken + rest.at(index(at, 0, 0)) : NEVER;
        }

        private int piecesBehind(int pieces) {
            return atBlank ? 0 : Math.min(pieces + 1, 2);
        }

        private static int index(int at, int width, int pieces) {
            return (at * WIDTHS + width) * PIECES + pieces;
        }

        private void setOut() {
            startAnew();
            int at = 0;
            int width = 0;
            int pieces = 0;
            for (int step = 0; step < 2 * Verses.BYTES && at < letters.size(); step++) {
                listChoices(at);
                int choice = bestChoice(at, width, pieces);
                if (choice < 0) {
                    at = endLine(at);
                    width = 0;
                    pieces = 0;
                } else {
                    width += choiceWidths.at(choice);
                    pieces = piecesBehind(pieces);
                    at = setPiece(at, choiceSizes.at(choice));
                }
            }
        }

        private void startAnew() {
            needs.fill(0);
            alone.fill(0);
            begins.put(0, 0);
            lines = 1;
            forms = 0;
        }

        /** NONE stands for the end of a line: it is the last choice, and taken where no other is as good. */
        private int bestChoice(int at, int width, int pieces) {
            int least = rest.at(index(at, width, pieces));
            for (int choice = 0; choice < choiceSizes.size(); choice++) {
                if (uglyBy(at, width, pieces, choice) == least) {
                    return choice;
                }
            }
            return NONE;
        }

        /** Where the next line begins. */
        private int endLine(int at) {
            int next = at + 1;
            if (!atBlank) {
                needs.add(BREAK, 1);
                next = at;
            }
            begins.put(lines, next);
            lines++;
            return next;
        }

        /** Where the next piece begins. */
        private int setPiece(int at, int size) {
            if (size > 1) {
                forms++;
            } else if (!atBlank) {
                needs.add(letters.at(at), 1);
                alone.put(at, 1);
            }
            return at + size;
        }

        /** SPARES for a SORT that is lacking. */
        int sparing(int lacking) {
            int least = NOTHING;
            for (int at = 0; at < letters.size(); at++) {
                least = lesser(least, standsAlone(at, 3, lacking) ? threes.at(at) : NONE);
                least = lesser(least, standsAlone(at, 2, lacking) ? twos.at(at) : NONE);
            }
            return least;
        }

        private int lesser(int least, int form) {
            int number = form < 0 ? least : customs.formLetters.at(form);
            return least == NOTHING ? number : Math.min(least, number);
        }

        /** Whether n letters are all alone in THE SETTING and one of them is the lacking one. */
        private boolean standsAlone(int at, int n, int lacking) {
            boolean has = false;
            for (int i = at; i < at + n; i++) {
                if (alone.at(i) == 0) {
                    return false;
                }
                has = has || letters.at(i) == lacking;
            }
            return has;
        }
    }

    /** SORTS in THE CASE, in THE POT and in PAGES. */
    private static final class Stock {
        private static final int PAGES = 20;
        private static final int WEAR = 10000;

        private final Row widths;
        private final Row inCase;
        private final Row inPot;
        private final Row pulls;
        private final Row standing;
        private final Row inPage;

        Stock(Shelf shelf) {
            widths = shelf.place(SORTS);
            inCase = shelf.place(SORTS);
            inPot = shelf.place(SORTS);
            pulls = shelf.place(PAGES);
            standing = shelf.place(PAGES);
            inPage = shelf.place(PAGES * SORTS);
            widths.fill(2);
            widths.put(BREAK, 1);
        }

        int castAnew(int sort, int n) {
            inPot.add(sort, -Math.min(n, inPot.at(sort)));
            inCase.add(sort, n);
            return inCase.at(sort);
        }

        boolean hasPage(int page) {
            return page >= 0 && page < pulls.size();
        }

        boolean hasAllPages() {
            return pulls.isFull();
        }

        boolean stands(int page) {
            return standing.at(page) == 1;
        }

        int standing() {
            int number = 0;
            for (int page = 0; page < pulls.size(); page++) {
                number += standing.at(page);
            }
            return number;
        }

        int inPages(int sort) {
            int number = 0;
            for (int page = 0; page < pulls.size(); page++) {
                number += stands(page) ? inPage.at(page * SORTS + sort) : 0;
            }
            return number;
        }

        /** LACKS for these NEEDS, or NOTHING. */
        int lacking(Row needs) {
            for (int sort = 0; sort < SORTS; sort++) {
                if (inCase.at(sort) < needs.at(sort)) {
                    return sort;
                }
            }
            return NOTHING;
        }

        int putUp(Row needs) {
            int page = pulls.number(0);
            standing.put(page, 1);
            for (int sort = 0; sort < SORTS; sort++) {
                inPage.put(page * SORTS + sort, needs.at(sort));
                inCase.add(sort, -needs.at(sort));
            }
            return page;
        }

        int takeDown(int page) {
            int lost = 0;
            for (int sort = 0; sort < SORTS; sort++) {
                int all = inPage.at(page * SORTS + sort);
                int worn = Math.min(all, all * pulls.at(page) / WEAR);
                inPot.add(sort, worn);
                inCase.add(sort, all - worn);
                lost += worn;
            }
            standing.put(page, 0);
            return lost;
        }
    }

    /** PRESSES and the DAYS of their JOBS, reckoned as each JOB is told. */
    private static final class Presses {
        private static final int PRESSES = 4;
        private static final int JOBS = 12;
        private static final int NEVER = 9999;

        private final Row rates;
        private final Row frees;
        private final Row jobPresses;
        private final Row jobFirsts;
        private final Row jobEnds;

        Presses(Shelf shelf) {
            rates = shelf.place(PRESSES);
            frees = shelf.place(PRESSES);
            jobPresses = shelf.place(JOBS);
            jobFirsts = shelf.place(JOBS);
            jobEnds = shelf.place(JOBS);
        }

        /** The PRESS that is free first, or NONE if none pulls. */
        int firstFree(int today) {
            int first = NONE;
            for (int press = 0; press < PRESSES; press++) {
                if (rates.at(press) > 0 && (first < 0 || freeFrom(press, today) < freeFrom(first, today))) {
                    first = press;
                }
            }
            return first;
        }

        private int freeFrom(int press, int today) {
            return Math.max(frees.at(press), today);
        }

        int give(int press, int pulls, int today, Ways ways) {
            int first = NOTHING;
            int end = NOTHING;
            int left = pulls;
            for (int day = freeFrom(press, today); day <= LAST_DAY && left > 0; day++) {
                if (ways.isFeast(day)) {
                    continue;
                }
                first = first == NOTHING ? day : first;
                left -= rates.at(press);
                end = left > 0 ? NOTHING : day + 1;
            }
            frees.put(press, end == NOTHING ? NEVER : end);
            jobFirsts.push(first);
            jobEnds.push(end);
            return jobPresses.number(press);
        }
    }

    /** LEAVES of KINDS, and COPIES. */
    private static final class Leaves {
        private static final int LEAVES = 40;
        private static final int TOWNS = 10;
        private static final int LEAF = 0, ANEW = 1, SKIN = 2, PAPER = 3, LOST = 4, RED = 5, MENDED = 6;
        private static final int LEAF_COSTS = 10;
        private static final int ANEW_COSTS = 2 * LEAF_COSTS;
        private static final int SKIN_COSTS = LEAF_COSTS + 50;

        private final Row kinds;
        private final Row pages;
        private final Row holes;
        private final Row towns;
        private final Row ranks;

        Leaves(Shelf shelf) {
            kinds = shelf.place(LEAVES);
            pages = shelf.place(LEAVES);
            holes = shelf.place(LEAVES);
            towns = shelf.place(LEAVES);
            ranks = new Row(LEAVES);
        }

        static boolean isKind(int kind) {
            return kind >= LEAF && kind <= MENDED;
        }

        /** Whether a KIND is k or one under it. */
        static boolean isUnder(int kind, int k) {
            return kind == k || k == LEAF || (kind == RED && k == SKIN) || (kind == MENDED && k == ANEW);
        }

        boolean has(int leaf) {
            return leaf >= 0 && leaf < kinds.size();
        }

        int lay(int kind, int p, int h, int town) {
            pages.push(p);
            holes.push(h);
            towns.push(town);
            return kinds.number(kind);
        }

        int costOf(int leaf) {
            switch (kinds.at(leaf)) {
                case ANEW:
                    return ANEW_COSTS;
                case SKIN:
                    return SKIN_COSTS;
                case PAPER:
                    return LEAF_COSTS + Math.floorMod(holes.at(leaf), 7);
                case LOST:
                    return 0;
                case RED:
                    return SKIN_COSTS + 3 * pages.at(leaf);
                case MENDED:
                    return ANEW_COSTS - 5;
                default:
                    return LEAF_COSTS;
            }
        }

        /** SHOWS of a LEAF. */
        int faceOf(int leaf) {
            switch (kinds.at(leaf)) {
                case SKIN:
                case RED:
                    return costOf(leaf) - pages.at(leaf);
                case LOST:
                    return -1;
                case MENDED:
                    return 100 + pages.at(leaf);
                default:
                    return pages.at(leaf);
            }
        }

        /** Leaves with the same holes are of as many copies as they have ranks: leaves of one page at the most. */
        int fewestCopies(int inTowns) {
            int copies = 0;
            for (int leaf = 0; leaf < kinds.size(); leaf++) {
                ranks.put(leaf, counts(leaf, inTowns) ? rankOf(leaf) : 0);
                copies += ranks.at(leaf) > 0 && isFirstOfRank(leaf) ? 1 : 0;
            }
            return copies;
        }

        private boolean counts(int leaf, int inTowns) {
            return kinds.at(leaf) != LOST && (inTowns >> towns.at(leaf) & 1) != 0;
        }

        /** The how manieth leaf it is with its page and holes. */
        private int rankOf(int leaf) {
            int rank = 1;
            for (int other = 0; other < leaf; other++) {
                boolean alike = pages.at(other) == pages.at(leaf) && holes.at(other) == holes.at(leaf);
                rank += alike && ranks.at(other) > 0 ? 1 : 0;
            }
            return rank;
        }

        private boolean isFirstOfRank(int leaf) {
            for (int other = 0; other < leaf; other++) {
                if (holes.at(other) == holes.at(leaf) && ranks.at(other) == ranks.at(leaf)) {
                    return false;
                }
            }
            return true;
        }
    }

    /** STATES of a leaf, pages of hands, and rules of printed pages: what orders and sets they allow. */
    private static final class Evidence {
        private static final int STATES = 7;
        private static final int HANDS = 10;
        private static final int FIGURES = 4;
        private static final int PRINTED = 10;
        private static final int RULES = 30;
        private static final int SETS = 1024;

        private final Row states;
        private final Row habits;
        private final Row rules;
        private final Row path;
        private final Row firstOrder;
        private final Row partners;
        private final Row forerunners;
        private final Row joins;
        private final Row fewest;
        private final Row ways;

        Evidence(Shelf shelf) {
            states = shelf.place(STATES);
            habits = shelf.place(HANDS);
            rules = shelf.place(RULES);
            path = new Row(STATES);
            firstOrder = new Row(STATES);
            partners = new Row(HANDS);
            forerunners = new Row(PRINTED);
            joins = new Row(SETS);
            fewest = new Row(SETS);
            ways = new Row(SETS);
        }

        /** ORDERS; FIRST ORDER stands in firstOrder then, if there are any. */
        int countStateOrders() {
            firstOrder.clear();
            return follow(this, 0, 0, 0);
        }

        /** How many ALLOWED orders go on from a path of this depth: the least ones are followed first. */
        private static int follow(Evidence e, int depth, int used, int changed) {
            int size = e.states.size();
            if (depth >= size || depth >= STATES) {
                e.keepFirst(size);
                return 1;
            }
            int orders = 0;
            for (int next = 0; next < size; next++) {
                int changes = depth == 0 ? 0 : e.states.at(next) ^ e.states.at(e.path.at(depth - 1));
                if ((used >> next & 1) == 0 && (changes & changed) == 0) {
                    e.path.put(depth, next);
                    orders += follow(e, depth + 1, used | 1 << next, changed | changes);
                }
            }
            return orders;
        }

        private void keepFirst(int size) {
            if (firstOrder.size() > 0) {
                return;
            }
            for (int i = 0; i < size; i++) {
                firstOrder.push(path.at(i));
            }
        }

        /** Reckons for each set of pages the fewest hands that explain it, and in how many ways. */
        void findHands(int d) {
            findPartners(d);
            int all = 1 << Math.min(habits.size(), HANDS);
            joins.put(0, 1);
            fewest.put(0, 0);
            ways.put(0, 1);
            for (int set = 1; set < all; set++) {
                int least = Integer.numberOfTrailingZeros(set);
                int others = set & (set - 1);
                boolean together = joins.at(others) == 1 && (others & ~partners.at(least)) == 0;
                joins.put(set, together ? 1 : 0);
                explain(set, 1 << least, others);
            }
        }

        private void findPartners(int d) {
            for (int a = 0; a < habits.size(); a++) {
                int set = 0;
                for (int b = 0; b < habits.size(); b++) {
                    set |= distance(habits.at(a), habits.at(b)) <= d ? 1 << b : 0;
                }
                partners.put(a, set);
            }
        }

        private static int distance(int a, int b) {
            int sum = 0;
            int restOfA = a;
            int restOfB = b;
            for (int i = 0; i < FIGURES; i++) {
                sum += Math.abs(restOfA % 10 - restOfB % 10);
                restOfA /= 10;
                restOfB /= 10;
            }
            return sum;
        }

        /** The hand of the set's least page is tried first, so that no two of the ways are the same sets. */
        private void explain(int set, int least, int others) {
            fewest.put(set, HANDS + 1);
            for (int more = others; more > 0; more = (more - 1) & others) {
                tryHand(set, least | more);
            }
            tryHand(set, least);
        }

        private void tryHand(int set, int hand) {
            if (joins.at(hand) == 0) {
                return;
            }
            int hands = 1 + fewest.at(set & ~hand);
            if (hands < fewest.at(set)) {
                fewest.put(set, hands);
                ways.put(set, 0);
            }
            if (hands == fewest.at(set)) {
                ways.add(set, ways.at(set & ~hand));
            }
        }

        int hands() {
            return fewest.at((1 << habits.size()) - 1);
        }

        int rivals() {
            return ways.at((1 << habits.size()) - 1);
        }

        static boolean isPrinted(int page) {
            return page >= 0 && page < PRINTED;
        }

        static int rule(int a, int b) {
            return a * PRINTED + b;
        }

        /** RUNS of n pages: each set of pages can have been printed first in as many orders. */
        int countRuns(int n) {
            findForerunners(n);
            int all = 1 << Math.max(0, Math.min(n, PRINTED));
            ways.fill(0);
            ways.put(0, 1);
            for (int set = 0; set < all; set++) {
                for (int page = 0; page < n && ways.at(set) > 0; page++) {
                    if (canFollow(page, set)) {
                        ways.add(set | 1 << page, ways.at(set));
                    }
                }
            }
            return ways.at(all - 1);
        }

        private void findForerunners(int n) {
            forerunners.fill(0);
            for (int i = 0; i < rules.size(); i++) {
                int a = rules.at(i) / PRINTED;
                int b = rules.at(i) % PRINTED;
                if (a < n && b < n) {
                    forerunners.put(b, forerunners.at(b) | 1 << a);
                }
            }
        }

        private boolean canFollow(int page, int set) {
            return (set >> page & 1) == 0 && (forerunners.at(page) & ~set) == 0;
        }

        /** BEGINS, where there are RUNS. */
        int beginnings(int n) {
            int set = 0;
            for (int page = 0; page < n; page++) {
                set |= canFollow(page, 0) ? 1 << page : 0;
            }
            return set;
        }

        /** The i-th page of LAST ONE, where there are RUNS: then the greatest page that can follow is right. */
        int lastOne(int n, int i) {
            int set = 0;
            int last = NONE;
            for (int step = 0; step <= i && step < PRINTED; step++) {
                last = greatestNext(n, set);
                set |= 1 << Math.max(last, 0);
            }
            return last;
        }

        private int greatestNext(int n, int set) {
            for (int page = n - 1; page >= 0; page--) {
                if (canFollow(page, set)) {
                    return page;
                }
            }
            return NONE;
        }
    }

    /** LOANS, what was PAID of them, and THINGS. */
    private static final class Loans {
        private static final int LOANS = 6;
        private static final int PAYMENTS = 20;
        private static final int YEAR = 360;
        private static final int THINGS = 8;

        private final Row coins;
        private final Row days;
        private final Row hundredths;
        private final Row paidLoans;
        private final Row paidDays;
        private final Row paidCoins;
        private final Row worths;

        Loans(Shelf shelf) {
            coins = shelf.place(LOANS);
            days = shelf.place(LOANS);
            hundredths = shelf.place(LOANS);
            paidLoans = shelf.place(PAYMENTS);
            paidDays = shelf.place(PAYMENTS);
            paidCoins = shelf.place(PAYMENTS);
            worths = shelf.place(THINGS);
        }

        boolean has(int loan) {
            return loan >= 0 && loan < coins.size();
        }

        int lend(int sum, int day, int rate) {
            days.push(day);
            hundredths.push(rate);
            return coins.number(sum);
        }

        int payBack(int loan, int day, int sum) {
            paidLoans.push(loan);
            paidDays.push(day);
            paidCoins.push(sum);
            return paid(loan, day, day);
        }

        /** What was PAID of a loan from a day to another, both counted. */
        private int paid(int loan, int from, int to) {
            int sum = 0;
            for (int i = 0; i < paidCoins.size(); i++) {
                boolean counts = paidLoans.at(i) == loan && paidDays.at(i) >= from && paidDays.at(i) <= to;
                sum += counts ? paidCoins.at(i) : 0;
            }
            return sum;
        }

        int owed(int loan, int day) {
            int from = days.at(loan);
            if (day < from) {
                return 0;
            }
            int owed = coins.at(loan);
            for (int whole = from + YEAR; whole <= day && whole <= LAST_DAY; whole += YEAR) {
                owed = Math.max(0, owed - paid(loan, from, whole));
                owed += owed * hundredths.at(loan) / 100;
                from = whole + 1;
            }
            return Math.max(0, owed - paid(loan, from, day));
        }

        /** A SUIT for a sum, or NOTHING. Sets go by from the least bits on: of like ones the first one stays. */
        int leastSet(int sum) {
            int best = NOTHING;
            for (int set = 0; set < 1 << THINGS; set++) {
                if (worthOf(set) >= sum && (best == NOTHING || isBetter(set, best))) {
                    best = set;
                }
            }
            return best;
        }

        private boolean isBetter(int set, int best) {
            int order = Integer.compare(worthOf(set), worthOf(best));
            return order < 0 || (order == 0 && Integer.bitCount(set) < Integer.bitCount(best));
        }

        private int worthOf(int set) {
            int worth = 0;
            for (int thing = 0; thing < THINGS; thing++) {
                worth += (set >> thing & 1) != 0 ? worths.at(thing) : 0;
            }
            return worth;
        }
    }
}
