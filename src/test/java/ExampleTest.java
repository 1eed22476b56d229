/** A day at the shop, as README.md shows it: behind each call stands the answer that is due. */
public final class ExampleTest {
    private static int wrong = 0;

    public static void main(String[] args) {
        LeadLetters shop = new LeadLetters();

        feed(shop, "form ea 3 1;column 15");      // e and a may stand joined, 3 wide, ugly by 1; columns of 15
        due(shop.text(0), 0);                     // way 0, from day 0 on
        due(shop.force(0, 7), 15);                // the column of day 7
        feed(shop, "column 7;wide x");
        due(shop.text(0), -24);                   // a fault at byte 14: -10 less 14

        feed(shop, "all that falls is lead");
        due(shop.verse(), 0);                     // verse 0
        due(shop.line(0, 0, 0), 0);               // its setting on day 0 is not ugly,
        due(shop.line(0, 0, 1), 3);               // has three lines: "all that", "falls is", "lead";
        due(shop.line(0, 0, 11), 9);              // line 1 begins at byte 9
        due(shop.enough(0, 0), 0);                // the case is empty:
        due(shop.enough(0, 1), 0);                // a (sort 0) is lacking;
        due(shop.enough(0, 2), 40099);            // the form of e (4) and a (0) would spare one

        for (int sort = 0; sort < 27; sort++) {
            due(shop.cast(sort, 9), 9);
        }
        due(shop.page(0), 0);                     // page 0 stands,
        due(shop.many(0, 1), 4);                  // four of a in it,
        due(shop.many(0, 0), 5);                  // five of a still in the case
        for (int times = 1; times <= 5; times++) {
            due(shop.pull(0, 500), 500 * times);
        }
        due(shop.down(0), 2);                     // an a and an l are worn out

        due(shop.press(1, 40), 0);                // press 1 pulls 40 a day now
        due(shop.order(0, 100), 0);               // job 0 takes days 0, 1 and 2:
        due(shop.done(0, 2), 3);                  // it is done on day 3

        due(shop.image(), 0);                     // all that there is, on day 0
        due(shop.day(5), 5);
        feed(shop, "column 23");
        due(shop.tried(0, 1), 2);                 // as a way from today on it would make two lines
        due(shop.undo(), 0);                      // it is day 0 again

        due(shop.leaf(6, 4, 2, 0), 0);            // leaf 0: mended, page 4, holes 2, of town 0
        due(shop.shows(0, 1), 104);
        due(shop.state(3), 0);
        due(shop.state(1), 1);
        due(shop.allowed(-1), 2);                 // both orders of the two states are allowed
        due(shop.ahead(2, 0), 1);                 // rule 1: page 2 ahead of page 0
        due(shop.runs(3, 10), 2);                 // the greatest order of pages 0 .. 2 begins with page 2
        due(shop.loan(1000, 0, 10), 0);
        due(shop.owe(0, 360), 1100);              // a year of ten hundredths
        due(shop.sort(27, 2), LeadLetters.NONE);  // there is no such sort

        System.out.println("ExampleTest: " + wrong + " wrong");
        if (wrong > 0) System.exit(1);
    }

    /** The signs of a text onto the tape, up to eight a call: the first one is the highest byte. */
    private static void feed(LeadLetters shop, String text) {
        for (int from = 0; from < text.length(); from += 8) {
            String part = text.substring(from, Math.min(text.length(), from + 8));
            long bytes = 0;
            for (char sign : part.toCharArray()) bytes = bytes << 8 | sign;
            shop.feed(bytes, part.length());
        }
    }

    private static void due(int answer, int due) {
        if (answer == due) return;
        wrong++;
        System.out.println("answered " + answer + ", due is " + due);
    }
}
