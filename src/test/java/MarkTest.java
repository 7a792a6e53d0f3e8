/** Promises 28 and 29: mark, count. */
public final class MarkTest {
    public static void main(String[] args) {
        marks();
        counts();
        Due.end("MarkTest");
    }

    private static void marks() {
        HourAgain x = Due.of("town a; back 1 at 2;");
        for (int mark = 0; mark < 4; mark++) {
            Due.due("nothing is on it", x.mark(mark, true), false);
        }
        int[] none = {-1, 4, 32, Integer.MAX_VALUE, Integer.MIN_VALUE};
        for (int mark : none) {
            Due.due("none such", x.mark(mark, false), false);
            Due.due("none such, back", x.mark(mark, true), false);
        }
        for (int mark = 0; mark < 4; mark++) {
            Due.due("laid", x.mark(mark, false), true);
            Due.due("laid again", x.mark(mark, false), true);
            Due.due("gone back to", x.mark(mark, true), true);
            Due.due("gone back to again", x.mark(mark, true), true);
            for (int later = mark + 1; later < 4; later++) {
                Due.due("nothing is on a later one", x.mark(later, true), false);
            }
        }
        for (int mark = 0; mark < 4; mark++) {
            Due.due("each holds it", x.mark(mark, true), true);
        }
        Due.due("the BOOK is as it was", x.shown(0, 1560), 1500);
        Due.due("and has its TOWN", x.count(0), 1);
        Due.due("the TAPE is no part of it", Due.lay(x, "town"), 4);
        Due.due("gone back to", x.mark(3, true), true);
        Due.due("the TAPE stays", x.count(6), 4);
        Due.due("a FAULT", x.book(), 1 + 16 * 4);
        Due.due("MARKS stay then", x.mark(3, true), true);
        Due.due("a BOOK", Due.read(x, "town b; town c;"), 0);
        for (int mark = 0; mark < 4; mark++) {
            Due.due("MARKS are gone", x.mark(mark, true), false);
        }
        Due.due("laid anew", x.mark(1, false), true);
        Due.due("back to the new BOOK", x.mark(1, true), true);
        Due.due("its TOWNS", x.count(0), 2);
    }

    private static void counts() {
        HourAgain x = Due.of("town a; town b; town c; back 1 at 2; way a b 1; way b c 1;"
            + "work e day 1 from 0 to 1 long 1 worth 1; person f; person g; person h; person i;"
            + "paper k in a day 1 at 1; paper l in b day 1 at 1; paper m in c day 1 at 1; paper n in c day 1 at 1;"
            + "paper o in c day 1 at 1; after k l 1; within m n 1; after m n 1; after m n 2; within k l 5; within l k 5;");
        int[] want = {3, 1, 4, 5, 6, 2, 0};
        for (int what = 0; what < 7; what++) {
            Due.due("count(" + what + ")", x.count(what), want[what]);
        }
        Due.due("count(-1)", x.count(-1), -1);
        Due.due("count(7)", x.count(7), -1);
        Due.due("count(a lot)", x.count(Integer.MAX_VALUE), -1);
        Due.due("on the TAPE", Due.lay(x, "town x"), 6);
        Due.due("count(6)", x.count(6), 6);
        Due.due("the BOOK is not read yet", x.count(0), 3);
    }
}
