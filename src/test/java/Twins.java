import java.util.ArrayList;
import java.util.List;

/**
 * "They change nothing": two objects are led through the same calls, one of them through a refused call, too; then both
 * are asked for all that can be told of them.
 */
final class Twins {
    private static final int[] DAYS = {0, 1, 30, 359, 360, 998, 999};

    private final LeadLetters shop;
    private final List<Long> told = new ArrayList<>();

    private Twins(List<Rows.Call> calls) {
        shop = new LeadLetters();
        for (Rows.Call call : calls) Rows.answer(shop, call);
    }

    static boolean differ(List<Rows.Call> ahead, Rows.Call refused) {
        List<Rows.Call> with = new ArrayList<>(ahead);
        with.add(refused);
        return !look(ahead, true).equals(look(with, true)) || !look(ahead, false).equals(look(with, false));
    }

    private static List<Long> look(List<Rows.Call> calls, boolean tapeAsVerse) {
        Twins twin = new Twins(calls);
        twin.ask();
        twin.tell(tapeAsVerse ? twin.shop.verse() : twin.shop.text(999));
        twin.askWhatChanges();
        twin.tell(twin.shop.undo());
        twin.ask();
        twin.tell(tapeAsVerse ? twin.shop.verse() : twin.shop.text(999));
        twin.askWhatChanges();
        return twin.told;
    }

    private void tell(long answer) {
        told.add(answer);
    }

    /** Calls that change nothing. */
    private void ask() {
        for (int what = 0; what <= 10; what++) tell(shop.count(what));
        for (int sort = 0; sort <= 26; sort++) {
            for (int what = 0; what <= 2; what++) tell(shop.many(sort, what));
        }
        for (int day : DAYS) {
            for (int word = 0; word <= 6; word++) tell(shop.force(word, day));
        }
        for (int day = 0; day < 30; day++) tell(shop.force(5, 960 + day));
        for (int verse = 0; verse < shop.count(1); verse++) askVerse(verse);
        for (int job = 0; job < shop.count(4); job++) {
            for (int what = 0; what <= 2; what++) tell(shop.done(job, what));
        }
        for (int leaf = 0; leaf < shop.count(5); leaf++) {
            for (int what = 0; what <= 1; what++) tell(shop.shows(leaf, what));
            for (int kind = 0; kind <= 6; kind++) tell(shop.as(leaf, kind));
        }
        for (int towns = 1; towns <= 512; towns *= 2) tell(shop.copies(towns));
        tell(shop.copies(1023));
        for (int i = -1; i < 7; i++) tell(shop.allowed(i));
        for (int d = 0; d <= 36; d += 4) {
            tell(shop.rival(d, 0));
            tell(shop.rival(d, 1));
        }
        for (int n = 1; n <= 10; n += 3) {
            for (int what : new int[] {0, 1, 10, 13, 19}) tell(shop.runs(n, what));
        }
        for (int loan = 0; loan < shop.count(8); loan++) {
            for (int day : DAYS) tell(shop.owe(loan, day));
        }
        for (int sum : new int[] {0, 1, 5, 100, 9999, 20000}) tell(shop.suit(sum));
    }

    private void askVerse(int verse) {
        for (int what : new int[] {0, 1, 2, 3, 10, 11, 12}) {
            tell(shop.line(verse, shop.count(9), what));
            tell(shop.line(verse, 999, what));
        }
        for (int sort : new int[] {0, 1, 2, 26}) tell(shop.needs(verse, shop.count(9), sort));
        for (int what = 0; what <= 2; what++) tell(shop.enough(verse, what));
    }

    /** Calls that show the rest by changing it: the twins are asked for nothing else afterwards but what undo() brings back. */
    private void askWhatChanges() {
        for (int page = 0; page < shop.count(2); page++) tell(shop.pull(page, 500));
        for (int i = 0; i < 12; i++) tell(shop.order(0, 50));
        for (int job = 0; job < shop.count(4); job++) tell(shop.done(job, 0) * 10000L + shop.done(job, 2));
        for (int press = 0; press <= 3; press++) tell(shop.press(press, 1));
        for (int page = 0; page < shop.count(2); page++) tell(shop.down(page));
        for (int sort = 0; sort <= 26; sort++) {
            tell(shop.many(sort, 2));
            tell(shop.sort(sort, 9));
        }
        for (int a = 0; a < 10; a++) {
            for (int b = 0; b < 10; b++) tell(shop.ahead(a, b));
        }
        for (int loan = 0; loan < shop.count(8); loan++) {
            for (int day : DAYS) tell(shop.pay(loan, day, 1));
        }
        for (int thing = 0; thing <= 7; thing++) tell(shop.thing(thing, 1));
        for (int bits = 0; bits <= 16; bits++) tell(shop.state(bits));
    }
}
