/** Promises 28 and 29, and what holds for all calls: the edges of MARKS and counts, each sentence by itself. */
public final class MarkEdgesTest {
    private static final int MIN = Integer.MIN_VALUE;
    private static final int MAX = Integer.MAX_VALUE;

    public static void main(String[] args) {
        laid();
        nothingOnIt();
        noneSuch();
        holdTheBook();
        gone();
        counts();
        countsOfAll();
        countRange();
        calls();
        Due.end("MarkEdgesTest");
    }

    private static void laid() {
        HourAgain x = Due.of("town a;");
        Due.promise(28, "MARKS 0 to 3: a MARK is laid: true");
        for (int mark = 0; mark <= 3; mark++) {
            Due.due("mark(" + mark + ", false)", x.mark(mark, false), true);
        }
        Due.promise(28, "back: gone back to: true, as often as one likes");
        for (int round = 0; round < 2; round++) {
            for (int mark = 3; mark >= 0; mark--) {
                Due.due("mark(" + mark + ", true)", x.mark(mark, true), true);
            }
        }
        Due.promise(28, "a MARK is laid again: true");
        for (int mark = 0; mark <= 3; mark++) {
            Due.due("mark(" + mark + ", false)", x.mark(mark, false), true);
        }
        Due.promise(28, "a MARK holds an empty BOOK as well");
        HourAgain y = new HourAgain();
        Due.due("mark(0, false)", y.mark(0, false), true);
        Due.due("mark(0, true)", y.mark(0, true), true);
    }

    private static void nothingOnIt() {
        Due.promise(28, "false: nothing is on it (back)");
        for (int mark = 0; mark <= 3; mark++) {
            HourAgain x = new HourAgain();
            Due.due("of a new object", x.mark(mark, true), false);
            x.mark(mark, false);
            for (int other = 0; other <= 3; other++) {
                Due.due("mark(" + other + ", true) behind " + mark, x.mark(other, true), other == mark);
            }
        }
        Due.promise(28, "false: nothing is on it; nothing is laid by it");
        HourAgain x = new HourAgain();
        x.mark(2, true);
        Due.due("mark(2, true)", x.mark(2, true), false);
    }

    private static void noneSuch() {
        HourAgain x = Due.of("town a;");
        Due.promise(28, "false: none such");
        int[] none = {-1, 4, 5, 31, 32, 33, 35, 36, MIN, MAX};
        for (int mark : none) {
            Due.due("mark(" + mark + ", false)", x.mark(mark, false), false);
            Due.due("mark(" + mark + ", true)", x.mark(mark, true), false);
        }
        Due.promise(28, "none such lays no other one");
        for (int mark = 0; mark <= 3; mark++) {
            Due.due("mark(" + mark + ", true)", x.mark(mark, true), false);
        }
    }

    private static void holdTheBook() {
        HourAgain x = Due.of("town a;back 1 at 2;person p hour 3 worth 4;paper q in a day 1 at 61;");
        Due.promise(28, "MARKS hold the BOOK: gone back to, it is as it was");
        x.mark(0, false);
        Due.due("mark(0, true)", x.mark(0, true), true);
        Due.due("count(0)", x.count(0), 1);
        Due.due("shown(0, 1560)", x.shown(0, 1560), 1500);
        Due.due("wish(0, 3)", x.wish(0, 3), 4);
        Due.due("worlds()", x.worlds(), 2);
        Due.promise(28, "MARKS hold the BOOK, not the TAPE");
        Due.lay(x, "town b;");
        Due.due("mark(0, true)", x.mark(0, true), true);
        Due.due("count(6)", x.count(6), 7);
        x.mark(1, false);
        Due.due("book()", x.book(), 0);
        Due.due("count(2)", x.count(2), 0);
    }

    private static void gone() {
        HourAgain x = Due.of("town a;");
        for (int mark = 0; mark <= 3; mark++) {
            x.mark(mark, false);
        }
        Due.promise(28, "with a FAULT MARKS stay");
        Due.read(x, "town");
        for (int mark = 0; mark <= 3; mark++) {
            Due.due("mark(" + mark + ", true)", x.mark(mark, true), true);
        }
        Due.promise(28, "MARKS are gone with another BOOK");
        Due.read(x, "town b;town c;");
        for (int mark = 0; mark <= 3; mark++) {
            Due.due("mark(" + mark + ", true)", x.mark(mark, true), false);
        }
        Due.due("the BOOK is the new one", x.count(0), 2);
        Due.promise(28, "MARKS are gone with the same BOOK read again, and with an empty one");
        x.mark(0, false);
        Due.read(x, "town b;town c;");
        Due.due("mark(0, true)", x.mark(0, true), false);
        x.mark(0, false);
        x.book();
        Due.due("mark(0, true)", x.mark(0, true), false);
        Due.promise(28, "a MARK is laid anew");
        Due.due("mark(0, false)", x.mark(0, false), true);
        Due.due("mark(0, true)", x.mark(0, true), true);
    }

    private static void counts() {
        String[] sentences = {"town a;", "work b day 1 from 0 to 1 long 1 worth 1;", "person c;", "town a;paper d in a day 1 at 1;",
            "town a;paper d in a day 1 at 1;paper e in a day 1 at 1;after d e 1;", "town a;town b;way a b 1;",
            "town a;paper d in a day 1 at 1;paper e in a day 1 at 1;within d e 1;"};
        int[][] want = {{1, 0, 0, 0, 0, 0}, {0, 1, 0, 0, 0, 0}, {0, 0, 1, 0, 0, 0}, {1, 0, 0, 1, 0, 0}, {1, 0, 0, 2, 1, 0},
            {2, 0, 0, 0, 0, 1}, {1, 0, 0, 2, 1, 0}};
        Due.promise(29, "What 0: TOWNS, 1: works, 2: PERSONS, 3: PAPERS, 4: after and within, 5: ways told");
        for (int i = 0; i < sentences.length; i++) {
            HourAgain x = Due.of(sentences[i]);
            for (int what = 0; what < 6; what++) {
                Due.due("count(" + what + ") of " + sentences[i], x.count(what), want[i][what]);
            }
        }
        Due.promise(29, "none told");
        for (int what = 0; what <= 6; what++) {
            Due.due("count(" + what + ")", new HourAgain().count(what), 0);
        }
    }

    private static void countsOfAll() {
        StringBuilder text = new StringBuilder("town a;town b;town c;way a b1;way b c1;way c a1;");
        for (char c = 'd'; c < 'l'; c++) {
            text.append("work ").append(c).append(" day1from0to1long1worth1;");
        }
        for (char c = 'l'; c < 'u'; c++) {
            text.append("person ").append(c).append(";");
        }
        for (char c = 'a'; c < 'm'; c++) {
            text.append("paper y").append(c).append(" in c day1at90;");
        }
        for (int i = 0; i < 16; i++) {
            text.append(i % 2 == 0 ? "after ya yb0;" : "within ya yb0;");
        }
        Due.promise(29, "all told");
        HourAgain x = Due.of(text.toString());
        int[] want = {3, 8, 9, 12, 16, 3, 0};
        for (int what = 0; what <= 6; what++) {
            Due.due("count(" + what + ")", x.count(what), want[what]);
        }
        Due.promise(29, "What 6: signs on the TAPE, the BOOK being as it was");
        Due.lay(x, "town");
        Due.due("count(6)", x.count(6), 4);
        Due.due("count(0)", x.count(0), 3);
        Due.promise(29, "ways told, not those over a third TOWN");
        Due.due("count(5)", Due.of("town a;town b;town c;way a b 1;way b c 1;").count(5), 2);
    }

    private static void countRange() {
        HourAgain x = Due.of("town a;");
        Due.promise(29, "NONE for another what");
        int[] none = {-1, 7, 8, MIN, MAX};
        for (int what : none) {
            Due.dueNone("count(" + what + ")", x.count(what));
        }
    }

    private static void calls() {
        Due.promise(29, "An object is used for at most 512 calls: the last of them as well");
        HourAgain x = new HourAgain();
        for (int call = 1; call <= 511; call++) {
            x.count(call);
        }
        Due.due("count(0)", x.count(0), 0);
        Due.promise(3, "An object is used for at most 512 calls: a BOOK read with the last but one");
        HourAgain y = new HourAgain();
        for (int call = 1; call <= 509; call++) {
            y.feed(0, 0, ' ');
        }
        // 'town k;' is fed with the 510th.
        y.feed(0, 0, 0x746f776e206b3bL);
        Due.due("book(), the 511th", y.book(), 0);
        Due.due("count(0), the 512th", y.count(0), 1);
    }
}
