/** Promise 2 (feed), and what promise 29 says of the signs on the TAPE. */
public final class FeedTest {
    public static void main(String[] args) {
        order();
        leftOut();
        full();
        Due.end("FeedTest");
    }

    private static void order() {
        HourAgain x = new HourAgain();
        // "town kk " + "; back 3" + " at 4 ; ": the highest byte of a is the first sign.
        Due.due("feed of 24", x.feed(0x746f776e206b6b20L, 0x3b206261636b2033L, 0x206174203420203bL), 24);
        Due.due("count(6)", x.count(6), 24);
        Due.due("book()", x.book(), 0);
        Due.due("count(6) behind it", x.count(6), 0);
        Due.due("moment(0, 3, 180, 0)", x.moment(0, 3, 180, 0), 2);
        Due.due("feed, all in c", x.feed(0, 0, 0x746f776e20617420L), 8);
        Due.due("book()", x.book(), 1 + 16 * 5);
    }

    private static void leftOut() {
        HourAgain x = new HourAgain();
        Due.due("nothing", x.feed(0, 0, 0), 0);
        Due.due("10 and 32 are signs", x.feed(0x0a20L, 0, 0), 2);
        Due.due("9, 11, 13, 31 are none", x.feed(0x090b0d1fL, 0, 0), 2);
        Due.due("126 is one, 127 and 128 are none", x.feed(0x7e7f80L, 0, 0), 3);
        Due.due("255 is none", x.feed(-1L, -1L, -1L), 3);
        Due.due("between others", x.feed(0x4100420043004400L, 0x0045004600470048L, 0), 11);
        Due.due("the highest byte", x.feed(0x4100000000000000L, 0x4100000000000000L, 0x4100000000000000L), 14);
    }

    private static void full() {
        HourAgain x = new HourAgain();
        String blanks = "                        ";
        for (int i = 1; i <= 41; i++) {
            Due.due("feed " + i, Due.lay(x, blanks), 24 * i);
        }
        Due.due("up to 1,000", Due.lay(x, "town kk ; town ll ; xxxx"), 1000);
        Due.due("no more", Due.lay(x, "x"), 1000);
        Due.due("count(6)", x.count(6), 1000);
        // 984 blanks and 16 signs: the text ends with 'town l'.
        Due.due("book()", x.book(), 1 + 16 * 1000);
        Due.due("count(6) behind a FAULT", x.count(6), 0);
        for (int i = 0; i < 41; i++) {
            Due.lay(x, blanks);
        }
        Due.due("1,000 again", Due.lay(x, "town kkkkkkkk  ;extra"), 1000);
        Due.due("book() up to the last sign", x.book(), 0);
        Due.due("count(0)", x.count(0), 1);
    }
}
