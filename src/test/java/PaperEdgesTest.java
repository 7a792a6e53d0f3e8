/** Promises 8 to 14: the edges of PAPERS and WORLDS, each sentence by itself. */
public final class PaperEdgesTest {
    private static final int MIN = Integer.MIN_VALUE;
    private static final int MAX = Integer.MAX_VALUE;
    private static final String BACK = "town d;back 1 at 2;";
    /** Either of these may be at 1520 or 1580, at 1510 or 1570. */
    private static final String TWO = BACK + "paper p in d day 1 at 80;paper q in d day 1 at 70;";

    public static void main(String[] args) {
        parts();
        noPapers();
        firstAndSecond();
        after();
        within();
        worlds();
        worldRow();
        worldRange();
        sure();
        before();
        beforeRange();
        together();
        togetherAlone();
        open();
        twelve();
        Due.end("PaperEdgesTest");
    }

    private static String papers(int many) {
        return papers(many, ";");
    }

    /** So many PAPERS k, l, .. of the hour that is had twice. */
    private static String papers(int many, String which) {
        StringBuilder text = new StringBuilder(BACK);
        for (int i = 0; i < many; i++) {
            text.append("paper ").append((char) ('k' + i)).append(" in d day 1 at ").append(60 + i).append(which);
        }
        return text.toString();
    }

    private static void parts() {
        HourAgain x = Due.of("town a;town b;town c;paper p in c day 3649 at 1439;paper q in a day 0 at 0 first;paper r in b day 5 at 6 second;");
        Due.promise(8, "what 0: its TOWN, 1: the day, 2: minutes, 3: 0 either, 1 first, 2 second");
        int[][] want = {{2, 3649, 1439, 0}, {0, 0, 0, 1}, {1, 5, 6, 2}};
        for (int paper = 0; paper < 3; paper++) {
            for (int what = 0; what < 4; what++) {
                Due.due("paper(" + paper + ", " + what + ")", x.paper(paper, what), want[paper][what]);
            }
        }
        Due.promise(8, "NONE: others");
        int[] whats = {-1, 4, 5, MIN, MAX};
        int[] papers = {-1, 3, 4, 11, 12, MIN, MAX};
        for (int paper = 0; paper < 3; paper++) {
            for (int what : whats) {
                Due.dueNone("paper(" + paper + ", " + what + ")", x.paper(paper, what));
            }
        }
        for (int paper : papers) {
            for (int what = 0; what < 4; what++) {
                Due.dueNone("paper(" + paper + ", " + what + ")", x.paper(paper, what));
            }
        }
        Due.dueNone("of a new object", new HourAgain().paper(0, 0));
    }

    private static void noPapers() {
        HourAgain[] none = {new HourAgain(), Due.of(BACK), Due.of("person p;")};
        for (HourAgain x : none) {
            Due.promise(9, "without PAPERS there is one WORLD, of none");
            Due.due("worlds()", x.worlds(), 1);
            Due.promise(10, "NONE: others, without PAPERS");
            Due.dueNone("world(0, 0)", x.world(0, 0));
            Due.promise(11, "NONE: others, without PAPERS");
            Due.dueNone("sure(0)", x.sure(0));
            Due.promise(12, "NONE: others, without PAPERS");
            Due.dueNone("before(0, 1)", x.before(0, 1));
            Due.promise(13, "NONE: there is a WORLD, without PAPERS");
            Due.dueNone("together()", x.together());
            Due.promise(14, "OPEN, without PAPERS");
            Due.due("open()", x.open(), 0);
        }
    }

    private static void firstAndSecond() {
        int[] minutes = {59, 60, 119, 120};
        for (int minute : minutes) {
            boolean twice = minute == 60 || minute == 119;
            int first = minute < 120 ? 1440 + minute : 1500 + minute;
            Due.promise(9, "else either");
            Due.due("worlds() at " + minute, Due.of(BACK + "paper p in d day 1 at " + minute + ";").worlds(), twice ? 2 : 1);
            Due.promise(9, "of first the first");
            HourAgain x = Due.of(BACK + "paper p in d day 1 at " + minute + " first;");
            Due.due("worlds() at " + minute, x.worlds(), 1);
            Due.due("sure(0) at " + minute, x.sure(0), first);
            Due.promise(9, "of second the second one (there is none where the hour is had once)");
            HourAgain y = Due.of(BACK + "paper p in d day 1 at " + minute + " second;");
            Due.due("worlds() at " + minute, y.worlds(), twice ? 1 : 0);
            Due.due("sure(0) at " + minute, y.sure(0), twice ? first + 60 : -1);
            Due.due("together() at " + minute, y.together(), twice ? -1 : 1);
        }
    }

    private static void after() {
        Due.promise(9, "after: the first is so many true minutes or more behind the second one");
        int[][] want = {{0, 3}, {10, 3}, {11, 1}, {70, 1}, {71, 0}, {9999, 0}};
        for (int[] w : want) {
            Due.due("after p q " + w[0], Due.of(TWO + "after p q " + w[0] + ";").worlds(), w[1]);
        }
        int[][] turned = {{0, 1}, {50, 1}, {51, 0}};
        for (int[] w : turned) {
            Due.due("after q p " + w[0], Due.of(TWO + "after q p " + w[0] + ";").worlds(), w[1]);
        }
        Due.promise(9, "after 0: at the same minute is fine");
        String same = BACK + "paper p in d day 1 at 70;paper q in d day 1 at 70;";
        Due.due("after p q 0", Due.of(same + "after p q 0;").worlds(), 3);
        Due.due("after p q 1", Due.of(same + "after p q 1;").worlds(), 1);
        Due.due("both ways", Due.of(same + "after p q 0;after q p 0;").worlds(), 2);
        Due.promise(9, "after 9999, just so");
        Due.due("9999", Due.of("town d;paper p in d day 6 at 1359;paper q in d day 0 at 0;after p q 9999;").worlds(), 1);
        Due.due("9998", Due.of("town d;paper p in d day 6 at 1358;paper q in d day 0 at 0;after p q 9999;").worlds(), 0);
    }

    private static void within() {
        Due.promise(9, "within: they are no more than so many apart");
        int[][] want = {{0, 0}, {9, 0}, {10, 2}, {49, 2}, {50, 3}, {69, 3}, {70, 4}, {9999, 4}};
        for (int[] w : want) {
            Due.due("within p q " + w[0], Due.of(TWO + "within p q " + w[0] + ";").worlds(), w[1]);
            Due.due("within q p " + w[0], Due.of(TWO + "within q p " + w[0] + ";").worlds(), w[1]);
        }
        Due.promise(9, "within 0: at the same minute");
        String same = BACK + "paper p in d day 1 at 70;paper q in d day 1 at 70;";
        Due.due("within p q 0", Due.of(same + "within p q 0;").worlds(), 2);
        Due.promise(9, "within 9999, just so");
        Due.due("9999", Due.of("town d;paper p in d day 6 at 1359;paper q in d day 0 at 0;within q p 9999;").worlds(), 1);
        Due.due("10000", Due.of("town d;paper p in d day 6 at 1360;paper q in d day 0 at 0;within q p 9999;").worlds(), 0);
        Due.promise(9, "so that all after and within hold");
        Due.due("the last of 16", Due.of(TWO + "after p q 0;".repeat(15) + "after q p 51;").worlds(), 0);
        Due.due("the first of 16", Due.of(TWO + "after q p 51;" + "after p q 0;".repeat(15)).worlds(), 0);
        Due.due("all of 16", Due.of(TWO + "after p q 10;within p q 10;".repeat(8)).worlds(), 2);
        Due.promise(9, "true minutes, in unlike TOWNS");
        String unlike = BACK + "town e;paper p in d day 1 at 120;paper q in e day 1 at 120;";
        Due.due("after p q 60", Due.of(unlike + "after p q 60;").worlds(), 1);
        Due.due("after p q 61", Due.of(unlike + "after p q 61;").worlds(), 0);
    }

    private static void worlds() {
        Due.promise(9, "How many WORLDS there are");
        for (int many = 0; many <= 12; many++) {
            Due.due("of " + many + " PAPERS", Due.of(papers(many)).worlds(), 1 << many);
        }
        Due.due("none", Due.of(papers(11) + "paper z in d day 2 at 0 second;").worlds(), 0);
    }

    private static void worldRow() {
        Due.promise(10, "the first PAPER's first MOMENT ahead, then the second PAPER's");
        HourAgain x = Due.of(papers(3));
        for (int n = 0; n < 8; n++) {
            for (int paper = 0; paper < 3; paper++) {
                Due.due("world(" + n + ", " + paper + ")", x.world(n, paper), 1500 + paper + 60 * (n >> 2 - paper & 1));
            }
        }
        Due.promise(10, "the n-th WORLD: those that can't be are not counted");
        HourAgain y = Due.of(TWO + "after p q 0;");
        int[][] want = {{1520, 1510}, {1580, 1510}, {1580, 1570}};
        for (int n = 0; n < 3; n++) {
            Due.due("world(" + n + ", 0)", y.world(n, 0), want[n][0]);
            Due.due("world(" + n + ", 1)", y.world(n, 1), want[n][1]);
        }
        Due.dueNone("world(3, 0)", y.world(3, 0));
        Due.promise(10, "a PAPER that has one MOMENT has it in all");
        HourAgain z = Due.of(TWO + "paper r in d day 1 at 5;paper s in d day 1 at 90 second;");
        for (int n = 0; n < 4; n++) {
            Due.due("world(" + n + ", 2)", z.world(n, 2), 1445);
            Due.due("world(" + n + ", 3)", z.world(n, 3), 1590);
        }
    }

    private static void worldRange() {
        HourAgain x = Due.of(papers(2));
        Due.promise(10, "NONE: others");
        int[] worlds = {-1, 4, 5, 4095, 4096, MIN, MAX};
        int[] papers = {-1, 2, 3, 11, 12, MIN, MAX};
        for (int n : worlds) {
            Due.dueNone("world(" + n + ", 0)", x.world(n, 0));
            Due.dueNone("world(" + n + ", 1)", x.world(n, 1));
        }
        for (int paper : papers) {
            Due.dueNone("world(0, " + paper + ")", x.world(0, paper));
            Due.dueNone("world(3, " + paper + ")", x.world(3, paper));
        }
        Due.due("world(3, 1)", x.world(3, 1), 1561);
        Due.promise(10, "NONE: others, without a WORLD");
        Due.dueNone("world(0, 0)", Due.of(TWO + "after q p 51;").world(0, 0));
    }

    private static void sure() {
        Due.promise(11, "a PAPER has the same MOMENT in all WORLDS");
        HourAgain x = Due.of(TWO + "after q p 0;paper r in d day 1 at 75;");
        Due.due("sure(0)", x.sure(0), 1520);
        Due.due("sure(1)", x.sure(1), 1570);
        Due.promise(11, "NONE: not so");
        Due.dueNone("sure(2)", x.sure(2));
        Due.promise(11, "and there is one");
        HourAgain y = Due.of(TWO + "after q p 51;paper r in d day 5 at 75;");
        for (int paper = 0; paper < 3; paper++) {
            Due.dueNone("sure(" + paper + ")", y.sure(paper));
        }
        Due.promise(11, "NONE: others");
        int[] papers = {-1, 3, 4, 12, MIN, MAX};
        for (int paper : papers) {
            Due.dueNone("sure(" + paper + ")", x.sure(paper));
        }
        Due.promise(11, "the MOMENT 0 is one");
        Due.due("sure(0)", Due.of("town a;paper p in a day 0 at 0;").sure(0), 0);
    }

    private static void before() {
        String[] bits = {"paper p in d day 1 at 70 first;paper q in d day 1 at 70 second;",
            "paper p in d day 1 at 70 first;paper q in d day 1 at 70 first;",
            "paper p in d day 1 at 70;paper q in d day 1 at 70;after q p 0;",
            "paper p in d day 1 at 70 second;paper q in d day 1 at 70 first;",
            "paper p in d day 1 at 70;paper q in d day 1 at 71;",
            "paper p in d day 1 at 70;paper q in d day 1 at 70;after p q 0;",
            "paper p in d day 1 at 70;paper q in d day 1 at 70;"};
        int[] want = {1, 2, 3, 4, 5, 6, 7};
        int[] turned = {4, 2, 6, 1, 5, 3, 7};
        Due.promise(12, "what can be: 1 the first is earlier, 2 at the same minute, 4 later, together");
        for (int i = 0; i < bits.length; i++) {
            HourAgain x = Due.of(BACK + bits[i]);
            Due.due("before(0, 1) of " + bits[i], x.before(0, 1), want[i]);
            Due.due("before(1, 0) of " + bits[i], x.before(1, 0), turned[i]);
        }
        Due.promise(12, "by one minute");
        HourAgain x = Due.of("town d;paper p in d day 1 at 70;paper q in d day 1 at 71;");
        Due.due("before(0, 1)", x.before(0, 1), 1);
        Due.due("before(1, 0)", x.before(1, 0), 4);
        Due.promise(12, "what can be is of whole WORLDS");
        HourAgain y = Due.of(BACK + "paper p in d day 1 at 70;paper q in d day 1 at 70;paper r in d day 1 at 70;within p r 0;within q r 0;");
        Due.due("before(0, 1) by a third one", y.before(0, 1), 2);
    }

    private static void beforeRange() {
        Due.promise(12, "0 without a WORLD");
        HourAgain none = Due.of(TWO + "after q p 51;paper r in d day 1 at 1;");
        for (int a = 0; a < 3; a++) {
            for (int b = 0; b < 3; b++) {
                Due.due("before(" + a + ", " + b + ")", none.before(a, b), a == b ? -1 : 0);
            }
        }
        HourAgain x = Due.of(TWO);
        Due.promise(12, "NONE: the same");
        Due.dueNone("before(0, 0)", x.before(0, 0));
        Due.dueNone("before(1, 1)", x.before(1, 1));
        Due.promise(12, "NONE: others");
        int[] papers = {-1, 2, 3, 11, 12, MIN, MAX};
        for (int paper : papers) {
            Due.dueNone("before(" + paper + ", 0)", x.before(paper, 0));
            Due.dueNone("before(1, " + paper + ")", x.before(1, paper));
            Due.dueNone("before(" + paper + ", " + paper + ")", x.before(paper, paper));
            Due.dueNone("without a WORLD", none.before(paper == 2 ? 3 : paper, 0));
        }
    }

    private static void together() {
        Due.promise(13, "NONE: there is a WORLD");
        Due.dueNone("together()", Due.of(TWO).together());
        Due.dueNone("together() of one WORLD", Due.of(TWO + "after q p 50;").together());
        Due.promise(13, "the fewest PAPERS that have no WORLD alone");
        Due.due("one", Due.of(TWO + "after q p 51;paper r in d day 2 at 0 second;").together(), 4);
        Due.due("two", Due.of(TWO + "after q p 51;").together(), 3);
        String three = BACK + "paper a in d day 1 at 60;paper b in d day 1 at 61;paper c in d day 1 at 62;";
        Due.due("three", Due.of(three + "after a b 0;after b c 0;").together(), 7);
        Due.promise(13, "the fewest PAPERS, all 12");
        StringBuilder chain = new StringBuilder(BACK);
        for (int i = 0; i < 12; i++) {
            chain.append("paper ").append((char) ('k' + i)).append(" in d day 1 at 90").append(i == 0 ? " first;" : i == 11 ? " second;" : ";");
        }
        for (int i = 1; i < 12; i++) {
            chain.append("within ").append((char) ('k' + i)).append(' ').append((char) ('j' + i)).append(" 0;");
        }
        Due.due("together()", Due.of(chain.toString()).together(), 4095);
        Due.promise(13, "of as many the least as bits");
        String once = "town d;paper k in d day 1 at 1;paper l in d day 1 at 1;paper m in d day 1 at 1;paper n in d day 1 at 1;";
        Due.due("0 with 3, 1 with 2", Due.of(once + "after k n 1;after l m 1;").together(), 6);
        Due.due("2 with 3, 0 with 3", Due.of(once + "after m n 1;after k n 1;").together(), 9);
        Due.due("the last two", Due.of(once + "after n m 1;").together(), 12);
        Due.due("single ones", Due.of(BACK + "paper k in d day 1 at 1;paper l in d day 1 at 1 second;paper m in d day 1 at 1 second;").together(), 2);
        Due.due("the last of 12", Due.of(papers(11) + "paper z in d day 1 at 1 second;").together(), 2048);
    }

    private static void togetherAlone() {
        Due.promise(13, "by all that is said of these alone");
        String three = BACK + "paper a in d day 1 at 60;paper b in d day 1 at 61;paper c in d day 1 at 62;";
        HourAgain x = Due.of(three + "after a b 0;after b c 0;paper e in d day 3 at 5;after e a 1;after e b 1;");
        Due.due("a fourth one says nothing", x.together(), 7);
        Due.promise(13, "several said of the same two");
        Due.due("together()", Due.of(TWO + "after p q 20;within p q 60;").together(), 3);
        Due.due("a WORLD", Due.of(TWO + "after p q 20;within p q 70;").together(), -1);
    }

    private static void open() {
        Due.promise(14, "PAPERS that are not SURE");
        Due.due("all", Due.of(TWO).open(), 3);
        Due.due("none", Due.of(TWO + "after q p 0;").open(), 0);
        Due.due("the second", Due.of(BACK + "paper p in d day 1 at 70 first;paper q in d day 1 at 70;paper r in d day 5 at 70;").open(), 2);
        Due.due("the last of 12", Due.of(papers(11, " first;") + "paper z in d day 1 at 90;").open(), 2048);
        Due.due("12", Due.of(papers(12)).open(), 4095);
        Due.promise(14, "NONE: there is no WORLD");
        Due.dueNone("open()", Due.of(TWO + "after q p 51;").open());
        Due.dueNone("open()", Due.of("town d;paper p in d day 1 at 1 second;").open());
    }

    private static void twelve() {
        HourAgain x = Due.of(papers(12));
        Due.promise(10, "the first and the last of 4,096 WORLDS");
        for (int paper = 0; paper < 12; paper++) {
            Due.due("world(0, " + paper + ")", x.world(0, paper), 1500 + paper);
            Due.due("world(4095, " + paper + ")", x.world(4095, paper), 1560 + paper);
            Due.dueNone("world(4096, " + paper + ")", x.world(4096, paper));
            Due.dueNone("world(-1, " + paper + ")", x.world(-1, paper));
        }
        Due.dueNone("world(0, 12)", x.world(0, 12));
        Due.promise(10, "each of 4,096 WORLDS");
        HourAgain y = x;
        for (int n = 0; n < 4096; n++) {
            // An object is used for 512 calls at most.
            y = n % 400 == 0 ? Due.of(papers(12)) : y;
            int paper = n % 13 % 12;
            Due.due("world(" + n + ", " + paper + ")", y.world(n, paper), 1500 + paper + 60 * (n >> 11 - paper & 1));
        }
        Due.promise(11, "the first and the last of 12 PAPERS, and none beyond");
        HourAgain firsts = Due.of(papers(12, " first;"));
        HourAgain seconds = Due.of(papers(12, " second;"));
        for (int paper = 0; paper < 12; paper++) {
            Due.due("sure(" + paper + ") of first", firsts.sure(paper), 1500 + paper);
            Due.due("sure(" + paper + ") of second", seconds.sure(paper), 1560 + paper);
            Due.dueNone("sure(" + paper + ") of either", x.sure(paper));
        }
        Due.dueNone("sure(12)", firsts.sure(12));
        Due.dueNone("sure(-1)", firsts.sure(-1));
        Due.promise(8, "the last of 12 PAPERS, and none beyond");
        Due.due("paper(11, 2)", x.paper(11, 2), 71);
        Due.dueNone("paper(12, 2)", x.paper(12, 2));
        Due.promise(12, "the first and the last of 12 PAPERS");
        Due.due("before(0, 11)", x.before(0, 11), 5);
        Due.due("before(11, 0)", x.before(11, 0), 5);
        Due.dueNone("before(11, 12)", x.before(11, 12));
    }
}
