/** Promises 8 to 14: paper, worlds, world, sure, before, together, open. */
public final class PaperTest {
    private static final String BEGIN = "town d; back 1 at 2; town e; back 1 at 3;";

    public static void main(String[] args) {
        parts();
        free();
        askedFirst();
        which();
        rules();
        order();
        apart();
        chain();
        afterAnotherBook();
        Due.end("PaperTest");
    }

    private static void parts() {
        HourAgain x = Due.of(BEGIN + "paper p in e day 3 at 7; paper q in d day 1 at 61 first; paper r in d day 1 at 62 second;");
        int[][] want = {{1, 3, 7, 0}, {0, 1, 61, 1}, {0, 1, 62, 2}};
        for (int paper = 0; paper < 3; paper++) {
            for (int what = 0; what < 4; what++) {
                Due.due("paper(" + paper + ", " + what + ")", x.paper(paper, what), want[paper][what]);
            }
            Due.due("paper, what -1", x.paper(paper, -1), -1);
            Due.due("paper, what 4", x.paper(paper, 4), -1);
        }
        int[] none = {-1, 3, 12, Integer.MAX_VALUE, Integer.MIN_VALUE};
        for (int paper : none) {
            Due.due("paper of none such", x.paper(paper, 0), -1);
            Due.due("sure of none such", x.sure(paper), -1);
            Due.due("world of none such", x.world(0, paper), -1);
            Due.due("before of none such", x.before(paper, 0), -1);
            Due.due("before none such", x.before(0, paper), -1);
        }
        Due.due("before the same", x.before(1, 1), -1);
        Due.due("world -1", x.world(-1, 0), -1);
        Due.due("world 1 of one", x.world(1, 0), -1);
        Due.due("world(0, 2)", x.world(0, 2), 1562);
    }

    private static void free() {
        StringBuilder text = new StringBuilder("town tt; back 1 at 2;");
        for (char c = 'a'; c < 'm'; c++) {
            text.append("paper ").append(c).append(" in tt day 1 at ").append(60 + c - 'a').append(';');
        }
        HourAgain x = Due.of(text.toString());
        Due.due("worlds()", x.worlds(), 4096);
        Due.due("open()", x.open(), 4095);
        Due.due("together()", x.together(), -1);
        int[] some = {0, 1, 63, 64, 65, 1000, 2048, 4032, 4095};
        for (int n : some) {
            for (int paper = 0; paper < 12; paper++) {
                int second = n >> 11 - paper & 1;
                Due.due("world(" + n + ", " + paper + ")", x.world(n, paper), 1500 + paper + 60 * second);
            }
        }
        Due.due("world(4096, 0)", x.world(4096, 0), -1);
        Due.due("before(3, 4)", x.before(3, 4), 5);
        Due.due("sure(11)", x.sure(11), -1);
        int[] none = {-1, 12, 13, 24};
        for (int paper : none) {
            Due.due("none beyond twelve", x.sure(paper), -1);
            Due.due("none beyond twelve", x.paper(paper, 0), -1);
            Due.due("none beyond twelve", x.world(0, paper), -1);
            Due.due("none beyond twelve", x.before(paper, 0), -1);
            Due.due("none beyond twelve", x.before(0, paper), -1);
        }
    }

    /** Each of these asked first of all. */
    private static void askedFirst() {
        String text = BEGIN + "paper p in d day 1 at 80; paper q in d day 1 at 70 second;";
        Due.due("worlds() first", Due.of(text).worlds(), 2);
        Due.due("world(1, 0) first", Due.of(text).world(1, 0), 1580);
        Due.due("sure(1) first", Due.of(text).sure(1), 1570);
        Due.due("before(0, 1) first", Due.of(text).before(0, 1), 5);
        Due.due("open() first", Due.of(text).open(), 1);
        Due.due("together() first", Due.of(text).together(), -1);
        Due.due("together() first, without a WORLD", Due.of(text + "after p q 99;").together(), 3);
        Due.due("open() first, without a WORLD", Due.of(text + "after p q 99;").open(), -1);
    }

    private static void which() {
        HourAgain x = Due.of(BEGIN + "paper a in d day 1 at 70 first; paper b in d day 1 at 70 second;"
            + "paper c in d day 1 at 70; paper f in d day 5 at 70 first; paper g in d day 5 at 71;");
        Due.due("worlds()", x.worlds(), 2);
        int[] sure = {1510, 1570, -1, 7330, 7331};
        for (int paper = 0; paper < 5; paper++) {
            Due.due("sure(" + paper + ")", x.sure(paper), sure[paper]);
        }
        Due.due("open()", x.open(), 4);
        Due.due("before(0, 1)", x.before(0, 1), 1);
        Due.due("before(1, 0)", x.before(1, 0), 4);
        Due.due("before(0, 2)", x.before(0, 2), 3);
        Due.due("before(1, 2)", x.before(1, 2), 6);
        Due.due("before(2, 0)", x.before(2, 0), 6);
        Due.due("before(2, 3)", x.before(2, 3), 1);
        Due.due("world(0, 2)", x.world(0, 2), 1510);
        Due.due("world(1, 2)", x.world(1, 2), 1570);
        // The other TOWN is put back at another stroke: the same minute there is later on no clock.
        HourAgain y = Due.of(BEGIN + "paper a in d day 1 at 119; paper b in e day 1 at 119; paper c in e day 1 at 120;");
        Due.due("worlds()", y.worlds(), 4);
        Due.due("before(0, 1)", y.before(0, 1), 6);
        Due.due("before(0, 2)", y.before(0, 2), 5);
        Due.due("sure(1)", y.sure(1), 1559);
    }

    private static void rules() {
        String two = BEGIN + "paper p in d day 1 at 80; paper q in d day 1 at 70;";
        int[][] after = {{0, 3}, {10, 3}, {11, 1}, {70, 1}, {71, 0}};
        for (int[] a : after) {
            Due.due("after p q " + a[0], Due.of(two + "after p q " + a[0] + ";").worlds(), a[1]);
        }
        int[][] back = {{0, 1}, {50, 1}, {51, 0}};
        for (int[] a : back) {
            Due.due("after q p " + a[0], Due.of(two + "after q p " + a[0] + ";").worlds(), a[1]);
        }
        int[][] within = {{9, 0}, {10, 2}, {49, 2}, {50, 3}, {69, 3}, {70, 4}};
        for (int[] w : within) {
            Due.due("within p q " + w[0], Due.of(two + "within p q " + w[0] + ";").worlds(), w[1]);
            Due.due("within q p " + w[0], Due.of(two + "within q p " + w[0] + ";").worlds(), w[1]);
        }
        HourAgain x = Due.of(two + "after p q 0; within p q 10;");
        Due.due("worlds() of both", x.worlds(), 2);
        Due.due("open()", x.open(), 3);
        Due.due("before(0, 1)", x.before(0, 1), 4);
        HourAgain y = Due.of(two + "within p q 50; after q p 1;");
        Due.due("worlds()", y.worlds(), 1);
        Due.due("sure(0)", y.sure(0), 1520);
        Due.due("sure(1)", y.sure(1), 1570);
        Due.due("open() of a sure one", y.open(), 0);
    }

    /** The first PAPER's first MOMENT comes ahead, then the second one's. */
    private static void order() {
        HourAgain x = Due.of(BEGIN + "paper p in d day 1 at 80; paper q in d day 1 at 70; paper r in d day 1 at 60;"
            + "after p q 0;");
        int[][] want = {{0, 0, 0}, {0, 0, 1}, {1, 0, 0}, {1, 0, 1}, {1, 1, 0}, {1, 1, 1}};
        Due.due("worlds()", x.worlds(), want.length);
        for (int n = 0; n < want.length; n++) {
            Due.due("world(" + n + ", 0)", x.world(n, 0), 1520 + 60 * want[n][0]);
            Due.due("world(" + n + ", 1)", x.world(n, 1), 1510 + 60 * want[n][1]);
            Due.due("world(" + n + ", 2)", x.world(n, 2), 1500 + 60 * want[n][2]);
        }
    }

    private static void apart() {
        String three = BEGIN + "paper a in d day 1 at 60; paper b in d day 1 at 61; paper c in d day 1 at 62;";
        // Any two go, but not all three: one of them has to be an hour off the others.
        HourAgain x = Due.of(three + "after a b 0; after b c 0;");
        Due.due("worlds()", x.worlds(), 0);
        Due.due("together()", x.together(), 7);
        Due.due("before(0, 1)", x.before(0, 1), 0);
        Due.due("before(0, 0)", x.before(0, 0), -1);
        Due.due("open()", x.open(), -1);
        Due.due("sure(0)", x.sure(0), -1);
        Due.due("world(0, 0)", x.world(0, 0), -1);
        Due.due("one alone", Due.of(three + "after a b 0; after b c 0; paper f in d day 2 at 0 second;").together(), 8);
        Due.due("two before three", Due.of(three + "after a b 0; after b c 0; paper f in d day 2 at 0; after c f 0;")
            .together(), 12);
        Due.due("of as many the least", Due.of(three + "paper f in d day 3 at 0; after c f 0; after a f 0; after b f 0;")
            .together(), 9);
        Due.due("of single ones the least", Due.of(three + "paper f in d day 2 at 0 second; paper g in d day 2 at 0 second;")
            .together(), 8);
        Due.due("two rules of the same two", Due.of(three + "after b a 30; within a b 60;").together(), 3);
    }

    /** A chain of which no link can be missed: the first one's MOMENT is told, and the last one's other one. */
    private static void chain() {
        StringBuilder text = new StringBuilder("town tt; back 1 at 2;");
        for (char c = 'a'; c < 'm'; c++) {
            text.append("paper ").append(c).append(" in tt day 1 at 90").append(c == 'a' ? " first" : c == 'l' ? " second" : "").append(';');
        }
        for (char c = 'b'; c < 'm'; c++) {
            text.append("within ").append(c).append(' ').append((char) (c - 1)).append(" 30;");
        }
        HourAgain x = Due.of(text.toString());
        Due.due("worlds()", x.worlds(), 0);
        Due.due("together()", x.together(), 4095);
    }

    private static void afterAnotherBook() {
        HourAgain x = Due.of(BEGIN + "paper p in d day 2 at 80 second; paper q in d day 1 at 70;");
        Due.due("worlds()", x.worlds(), 0);
        Due.due("together()", x.together(), 1);
        Due.due("another", Due.read(x, BEGIN + "paper p in d day 1 at 80; paper q in d day 2 at 70 second;"), 0);
        Due.due("together() of another", x.together(), 2);
        Due.due("another", Due.read(x, BEGIN + "paper p in d day 1 at 80;"), 0);
        Due.due("worlds()", x.worlds(), 2);
        Due.due("open()", x.open(), 1);
        Due.due("without", Due.read(x, BEGIN), 0);
        Due.due("worlds()", x.worlds(), 1);
        Due.due("open()", x.open(), 0);
    }
}
