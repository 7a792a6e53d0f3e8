/** Promise 3: every count that is told as 'at most' and every range with its two ends, each sentence by itself. */
public final class SentenceEdgesTest {
    public static void main(String[] args) {
        anyNumber();
        towns();
        backs();
        ways();
        works();
        workHours();
        persons();
        wishes();
        papers();
        which();
        rules();
        allAtOnce();
        Due.end("SentenceEdgesTest");
    }

    /** A NUMBER from low to high stands between the two texts: both ends are fine, one less and one more are FAULTS. */
    private static void ends(String ahead, int low, int high, String behind) {
        Due.of(ahead + low + behind);
        Due.of(ahead + high + behind);
        if (low > 0) {
            Due.fault(4, ahead + "@" + (low - 1) + behind);
        }
        Due.fault(high == 9999 ? 1 : 4, ahead + "@" + (high + 1) + behind);
        if (high < 9999) {
            Due.fault(4, ahead + "@9999" + behind);
        }
    }

    /** As many sentences as there may be are fine, each with a NAME of its own at the sign #; one more is a FAULT at its first word. */
    private static void atMost(int most, String ahead, String sentence, int what) {
        StringBuilder text = new StringBuilder(ahead);
        int first = Due.of(ahead).count(what);
        for (int i = first; i < most; i++) {
            text.append(sentence.replace('#', (char) ('b' + i)));
            Due.due("told so far", Due.of(text.toString()).count(what), i + 1);
        }
        Due.fault(5, text + "@" + sentence.replace('#', 'z'));
        Due.fault(5, text + "@" + sentence.replace('#', 'b'));
        Due.fault(5, text + "@" + sentence.substring(0, sentence.indexOf(' ')));
    }

    private static void anyNumber() {
        Due.promise(3, "any number of, none too");
        Due.due("book() of nothing", new HourAgain().book(), 0);
        Due.promise(3, "any number of, in any row");
        HourAgain x = Due.of("person p;work w day 1 from 0 to 1 long 1 worth 1;town a;paper q in a day 1 at 1;back 1 at 1;"
            + "paper r in a day 1 at 1;within q r 5;town b;way b a 1;back 2 at 2;person s;after r q 0;");
        int[] want = {2, 1, 2, 2, 2, 1};
        for (int what = 0; what < want.length; what++) {
            Due.due("count(" + what + ")", x.count(what), want[what]);
        }
    }

    private static void towns() {
        Due.promise(3, "town: 3 at most");
        atMost(3, "", "town #;", 0);
        Due.promise(3, "town: numbered as told");
        HourAgain x = Due.of("town c; back 1 at 1; town a; back 1 at 2; town b; back 1 at 3;");
        for (int town = 0; town < 3; town++) {
            Due.due("TOWN " + town, x.moment(town, 1, 60 * town, 0), 2);
            Due.due("TOWN " + town, x.moment(town, 1, 60 * town + 60, 0), 1);
        }
        Due.dueNone("TOWN 3", x.moment(3, 1, 0, 0));
    }

    private static void backs() {
        Due.promise(3, "back: the day (0 to 3649)");
        ends("town a;back ", 0, 3649, " at 5;");
        Due.promise(3, "back: the stroke (1 to 24)");
        ends("town a;back 5 at ", 1, 24, ";");
        Due.promise(3, "back: of the TOWN told last");
        HourAgain x = Due.of("town a;back 1 at 2;town b;back 2 at 2;way a b 5;person p;back 3 at 2;");
        int[][] want = {{0, 1, 2}, {0, 2, 1}, {0, 3, 1}, {1, 1, 1}, {1, 2, 2}, {1, 3, 2}};
        for (int[] w : want) {
            Due.due("MOMENTS in TOWN " + w[0] + " on day " + w[1], x.moment(w[0], w[1], 60, 0), w[2]);
        }
        Due.promise(3, "back: each day once in a TOWN");
        Due.fault(3, "town a;back 0 at 1;back @0 at 1;");
        Due.fault(3, "town a;back 3649 at 1;back @3649 at 24;");
        Due.fault(3, "town a;back 7 at 24;back 8 at 1;back @7 at 2;");
        Due.fault(3, "town a;back 7 at 24;back 8 at 1;back @8 at 2;");
        Due.of("town a;back 7 at 24;back 8 at 24;back 6 at 24;");
        Due.of("town a;back 7 at 24;town b;back 7 at 24;town c;back 7 at 24;");
        Due.promise(3, "back: 12 at most in a TOWN");
        StringBuilder text = new StringBuilder();
        for (int town = 0; town < 3; town++) {
            text.append("town ").append((char) ('a' + town)).append(';');
            for (int day = 0; day < 12; day++) {
                text.append("back ").append(day).append(" at 5;");
                Due.due("so far", Due.of(text.toString()).backs(town, 9999999), day + 1);
            }
            Due.fault(5, text + "@back 12 at 5;");
            Due.fault(5, text + "@back 0 at 5;");
            Due.fault(5, text + "@back");
        }
    }

    private static void ways() {
        Due.promise(3, "way: so many minutes (1 to 9999)");
        ends("town a;town b;way a b ", 1, 9999, ";");
        Due.promise(3, "way: both ways");
        HourAgain x = Due.of("town a;town b;way b a 77;");
        Due.due("way(0, 1)", x.way(0, 1), 77);
        Due.due("way(1, 0)", x.way(1, 0), 77);
        Due.promise(3, "way: two TOWNS told");
        Due.fault(2, "way @a b 5;");
        Due.fault(2, "town a;way @b a 5;");
        Due.fault(2, "town a;way a @b 5;");
        Due.fault(2, "person p;town a;way @p a 5;");
        Due.fault(2, "work p day 1 from 0 to 1 long 1 worth 1;town a;way a @p 5;");
        Due.promise(3, "way: not the same");
        Due.fault(3, "town a;town b;town c;way a @a 5;");
        Due.fault(3, "town a;town b;town c;way c @c 5;");
        Due.promise(3, "way: each pair once");
        String three = "town a;town b;town c;";
        String[][] pairs = {{"a", "b"}, {"b", "a"}, {"a", "c"}, {"c", "a"}, {"b", "c"}, {"c", "b"}};
        for (String[] one : pairs) {
            for (String[] other : pairs) {
                boolean same = (one[0] + one[1]).indexOf(other[0]) >= 0 && (one[0] + one[1]).indexOf(other[1]) >= 0;
                String told = three + "way " + one[0] + " " + one[1] + " 5;way " + other[0] + " ";
                if (same) {
                    Due.fault(3, told + "@" + other[1] + " 5;");
                } else {
                    Due.due("ways told", Due.of(told + other[1] + " 5;").count(5), 2);
                }
            }
        }
        Due.promise(3, "way: all three pairs");
        Due.due("ways told", Due.of(three + "way a b 1;way b c 9999;way c a 5;").count(5), 3);
    }

    private static void works() {
        Due.promise(3, "work: 8 at most");
        atMost(8, "", "work # day 1 from 0 to 1 long 1 worth 1;", 1);
        Due.promise(3, "work: a day (0 to 3649)");
        ends("work w day ", 0, 3649, " from 0 to 1 long 1 worth 1;");
        Due.promise(3, "work: how long (1 to 1440)");
        ends("work w day 1 from 0 to 1 long ", 1, 1440, " worth 1;");
        Due.promise(3, "work: worth 0 to 999");
        ends("work w day 1 from 0 to 1 long 1 worth ", 0, 999, ";");
        Due.promise(3, "work: the ends are kept as told");
        HourAgain x = Due.of("work v day 0 from 0 to 1 long 1 worth 0;work w day 3649 from 1439 to 1440 long 1440 worth 999;");
        int[][] want = {{0, 0, 1, 1, 0}, {3649, 1439, 1440, 1440, 999}};
        for (int work = 0; work < 2; work++) {
            for (int what = 0; what < 5; what++) {
                Due.due("work(" + work + ", " + what + ")", x.work(work, what), want[work][what]);
            }
        }
    }

    private static void workHours() {
        Due.promise(3, "work: from and to on the clock (0 to 1440 minutes)");
        ends("work w day 1 from 0 to ", 1, 1440, " long 1 worth 1;");
        Due.of("work w day 1 from 1439 to 1440 long 1 worth 1;");
        Due.fault(4, "work w day 1 from @1441 to 1442 long 1 worth 1;");
        Due.fault(4, "work w day 1 from 1439 to @1441 long 1 worth 1;");
        Due.fault(4, "work w day 1 from @1441 to 1 long 1 worth 1;");
        Due.promise(3, "work: from less than to (of to: not above from)");
        int[] some = {0, 1, 60, 1439};
        for (int from : some) {
            Due.of("work w day 1 from " + from + " to " + (from + 1) + " long 1 worth 1;");
            Due.fault(4, "work w day 1 from " + from + " to @" + from + " long 1 worth 1;");
            if (from > 0) {
                Due.fault(4, "work w day 1 from " + from + " to @" + (from - 1) + " long 1 worth 1;");
                Due.fault(4, "work w day 1 from " + from + " to @0 long 1 worth 1;");
            }
        }
        Due.promise(3, "work: from 1440 is in the range; no to is above it");
        Due.fault(4, "work w day 1 from 1440 to @1440 long 1 worth 1;");
        Due.fault(4, "work w day 1 from 1440 to @1441 long 1 worth 1;");
        Due.fault(4, "work w day 1 from 1440 to @0 long 1 worth 1;");
        Due.fault(1, "work w day 1 from 1440 @long 1 worth 1;");
    }

    private static void persons() {
        Due.promise(3, "person: 9 at most");
        atMost(9, "", "person # hour 1 worth 1;", 2);
        atMost(9, "person a;person k hour 2 worth 2;", "person #;", 2);
    }

    private static void wishes() {
        Due.promise(3, "WISH: a stroke (1 to 24)");
        ends("person p hour ", 1, 24, " worth 5;");
        Due.promise(3, "WISH: worth 0 to 99");
        ends("person p hour 5 worth ", 0, 99, ";");
        Due.promise(3, "WISH: none or more");
        StringBuilder text = new StringBuilder("person p");
        for (int stroke = 1; stroke <= 24; stroke++) {
            HourAgain x = Due.of(text + ";");
            for (int other = 1; other <= 24; other++) {
                Due.due("wish(0, " + other + ") of " + (stroke - 1), x.wish(0, other), other < stroke ? 100 - other : 0);
            }
            text.append(" hour ").append(stroke).append(" worth ").append(100 - stroke);
        }
        HourAgain all = Due.of(text + ";");
        Due.due("wish(0, 1) of all", all.wish(0, 1), 99);
        Due.due("wish(0, 24) of all", all.wish(0, 24), 76);
        Due.promise(3, "WISH: each stroke once");
        for (int stroke = 1; stroke <= 24; stroke++) {
            Due.fault(3, text + " hour @" + stroke + " worth 1;");
            Due.fault(3, "person p hour " + stroke + " worth 0 hour " + (stroke % 24 + 1) + " worth 1 hour @" + stroke + " worth 0;");
        }
        Due.of("person p hour 5 worth 1;person q hour 5 worth 1;");
    }

    private static void papers() {
        Due.promise(3, "paper: 12 at most");
        atMost(12, "town a;", "paper # in a day 1 at 1;", 3);
        Due.promise(3, "paper: a day (0 to 3649)");
        ends("town a;paper p in a day ", 0, 3649, " at 1;");
        Due.promise(3, "paper: minutes on the clock (0 to 1439)");
        ends("town a;paper p in a day 1 at ", 0, 1439, ";");
        Due.promise(3, "paper: the ends are kept as told");
        HourAgain x = Due.of("town a;town b;town c;paper p in c day 3649 at 1439;paper q in a day 0 at 0;");
        int[][] want = {{2, 3649, 1439, 0}, {0, 0, 0, 0}};
        for (int paper = 0; paper < 2; paper++) {
            for (int what = 0; what < 4; what++) {
                Due.due("paper(" + paper + ", " + what + ")", x.paper(paper, what), want[paper][what]);
            }
        }
        Due.promise(3, "paper: a TOWN told");
        Due.fault(2, "paper p in @a day 1 at 1;");
        Due.fault(2, "town a;paper p in @b day 1 at 1;town b;");
        Due.fault(2, "town a;person b;paper p in @b day 1 at 1;");
        Due.fault(2, "town a;paper b in a day 1 at 1;paper p in @b day 1 at 1;");
    }

    private static void which() {
        Due.promise(3, "WHICH is nothing, first or second");
        String[] words = {"", " first", " second"};
        for (int which = 0; which < 3; which++) {
            Due.due("paper(0, 3)", Due.of("town a;paper p in a day 1 at 1" + words[which] + ";").paper(0, 3), which);
        }
        Due.fault(1, "town a;paper p in a day 1 at 1 @third;");
        Due.fault(1, "town a;paper p in a day 1 at 1 @1;");
        Due.fault(1, "town a;paper p in a day 1 at 1 first @first;");
        Due.fault(1, "town a;paper p in a day 1 at 1 first @second;");
        Due.fault(1, "town a;paper p in a day 1 at 1 second @first;");
        Due.fault(1, "town a;paper p in a day 1 @first;");
        Due.fault(1, "town a;paper @first in a day 1 at 1;");
    }

    private static void rules() {
        String three = "town a;paper p in a day 1 at 1;paper q in a day 1 at 2;paper r in a day 1 at 3;";
        Due.promise(3, "after: so many true minutes (0 to 9999)");
        ends(three + "after p q ", 0, 9999, ";");
        Due.promise(3, "within: so many (0 to 9999)");
        ends(three + "within p q ", 0, 9999, ";");
        String[] both = {"after", "within"};
        for (String word : both) {
            Due.promise(3, word + ": two PAPERS told");
            Due.fault(2, word + " @p q 1;");
            Due.fault(2, three + word + " @s p 1;");
            Due.fault(2, three + word + " p @s 1;");
            Due.fault(2, three + word + " @a p 1;");
            Due.fault(2, three + word + " p @a 1;");
            Due.promise(3, word + ": not the same");
            Due.fault(3, three + word + " p @p 1;");
            Due.fault(3, three + word + " r @r 1;");
            Due.promise(3, word + ": the same two as often as one likes");
            Due.due("count(4)", Due.of(three + word + " p q 1;" + word + " p q 1;" + word + " q p 1;").count(4), 3);
        }
        Due.promise(3, "16 at most of after and within both together");
        for (int afters = 0; afters <= 16; afters++) {
            StringBuilder text = new StringBuilder(three);
            for (int i = 0; i < 16; i++) {
                text.append(i < afters ? "after" : "within").append(" p q 1;");
                if (afters == 8) {
                    Due.due("so far", Due.of(text.toString()).count(4), i + 1);
                }
            }
            Due.due("count(4)", Due.of(text.toString()).count(4), 16);
            for (String word : both) {
                Due.fault(5, text + "@" + word + " p q 1;");
                Due.fault(5, text + "@" + word + " x x 1;");
                Due.fault(5, text + "@" + word);
            }
        }
    }

    private static void allAtOnce() {
        Due.promise(3, "as many of all as there may be, in 1,000 signs");
        StringBuilder text = new StringBuilder();
        for (char c = 'a'; c < 'd'; c++) {
            text.append("town ").append(c).append(";back 1at 2;");
        }
        text.append("way a b1;way a c1;way b c1;");
        for (char c = 'd'; c < 'l'; c++) {
            text.append("work ").append(c).append(" day1from0to1long1worth1;");
        }
        for (char c = 'l'; c < 'u'; c++) {
            text.append("person ").append(c).append(";");
        }
        for (char c = 'a'; c < 'm'; c++) {
            text.append("paper y").append(c).append(" in c day1at90;");
        }
        for (int i = 0; i < 16; i++) {
            text.append(i % 2 == 0 ? "after ya yl0;" : "after yl yk0;");
        }
        HourAgain x = Due.of(text.toString());
        int[] want = {3, 8, 9, 12, 16, 3};
        for (int what = 0; what < want.length; what++) {
            Due.due("count(" + what + ")", x.count(what), want[what]);
        }
        String[] more = {"town", "work", "person", "paper", "after", "within"};
        for (String word : more) {
            Due.fault(5, text + "@" + word + " zz");
        }
        Due.of(text + "back 2 at 2;");
        Due.fault(3, text + "way a @b 1;");
    }
}
