/** Promises 22 to 24: the edges of GOING ABOUT and ways, each sentence by itself. */
public final class JourneyEdgesTest {
    private static final int MIN = Integer.MIN_VALUE;
    private static final int MAX = Integer.MAX_VALUE;

    public static void main(String[] args) {
        none();
        range();
        days();
        aheadAndBehind();
        byWays();
        inOneTown();
        anyTownAtTheBeginning();
        theMost();
        firstByMinute();
        firstByTown();
        thenTheSecond();
        goesRange();
        all();
        way();
        shortest();
        wayRange();
        Due.end("JourneyEdgesTest");
    }

    private static void none() {
        HourAgain[] without = {new HourAgain(), Due.of("person p;")};
        for (HourAgain x : without) {
            Due.promise(22, "NONE: no TOWN");
            Due.dueNone("most(0, 3649)", x.most(0, 3649));
            Due.promise(23, "NONE: others, no TOWN");
            Due.dueNone("goes(0, 3649, 0, 0)", x.goes(0, 3649, 0, 0));
            Due.promise(24, "NONE: others, no TOWN");
            Due.dueNone("way(0, 0)", x.way(0, 0));
        }
        Due.promise(22, "none put back: 0");
        row(Due.of("town a;"), 0, 3649);
        row(Due.of("town a;town b;town c;way a b 1;"), 0, 3649);
    }

    private static void range() {
        HourAgain x = Due.of("town a;back 0 at 1;back 3649 at 24;");
        Due.promise(22, "from a day to a day (0 to 3649)");
        int last = 3650 * 1440 + 60;
        row(x, 0, 3649, 0, 60, 0, last);
        row(x, 0, 0, 0, 60);
        row(x, 3649, 3649, 0, last);
        row(x, 1, 3648);
        Due.promise(22, "NONE: others");
        int[][] others = {{-1, 0}, {-1, 3649}, {0, 3650}, {3650, 3650}, {0, -1}, {-1, -1}, {MIN, MAX}, {MIN, 0}, {0, MAX}, {MAX, MAX}, {MAX, MIN}};
        for (int[] o : others) {
            Due.dueNone("most(" + o[0] + ", " + o[1] + ")", x.most(o[0], o[1]));
        }
        Due.promise(22, "NONE: others, to a day that is ahead of the first");
        Due.dueNone("most(1, 0)", x.most(1, 0));
        Due.dueNone("most(3649, 0)", x.most(3649, 0));
        Due.dueNone("most(3649, 3648)", x.most(3649, 3648));
        Due.promise(23, "NONE: others, of days");
        for (int[] o : others) {
            Due.dueNone("goes(" + o[0] + ", " + o[1] + ", 0, 0)", x.goes(o[0], o[1], 0, 0));
        }
        Due.dueNone("goes(3649, 0, 0, 0)", x.goes(3649, 0, 0, 0));
    }

    private static void days() {
        Due.promise(22, "put back on a day from one to another one, both too");
        HourAgain x = Due.of("town a;back 4 at 24;back 6 at 1;");
        row(x, 4, 6, 0, 7200, 0, 8760);
        row(x, 4, 5, 0, 7200);
        row(x, 5, 6, 0, 8760);
        row(x, 5, 5);
        row(x, 4, 4, 0, 7200);
        row(x, 6, 6, 0, 8760);
        row(x, 0, 3);
        row(x, 7, 3649);
        Due.promise(22, "put back at 24: on the day that is told, not on the next one");
        row(Due.of("town a;back 4 at 24;"), 5, 9);
        row(Due.of("town a;back 4 at 24;"), 0, 4, 0, 7200);
    }

    private static void aheadAndBehind() {
        Due.promise(22, "from 60 true minutes ahead of a putting back to 60 behind it");
        for (int way = 58; way <= 62; way++) {
            HourAgain x = Due.of("town a;back 1 at 2;town b;back 1 at 5;way a b " + way + ";");
            if (way <= 60) {
                row(x, 1, 1, 0, 1560, 1, 1740);
            } else {
                row(x, 1, 1, 0, 1560);
            }
        }
        Due.promise(22, "true minutes: those that were put back ahead have made it later");
        row(Due.of("town a;back 1 at 2;town b;back 0 at 5;back 1 at 4;way a b 60;"), 1, 1, 0, 1560, 1, 1740);
        row(Due.of("town a;back 1 at 2;town b;back 0 at 5;back 1 at 4;way a b 61;"), 1, 1, 0, 1560);
        Due.promise(22, "at the same minute, and less than two hours apart, one can't have both");
        row(Due.of("town a;back 1 at 2;town b;back 1 at 2;way a b 1;"), 1, 1, 0, 1560);
        row(Due.of("town a;back 1 at 2;town b;back 1 at 4;way a b 1;"), 1, 1, 0, 1560);
    }

    private static void byWays() {
        String two = "town a;back 1 at 2;town b;back 9 at 2;";
        Due.promise(22, "goes by ways: without one not at all");
        row(Due.of(two), 0, 9, 0, 1560);
        Due.promise(22, "goes by ways: a long one");
        row(Due.of(two + "way a b 9999;"), 0, 9, 0, 1560, 1, 13080);
        Due.promise(22, "one behind the other");
        String near = "town a;back 1 at 2;town b;back 1 at 5;town c;";
        row(Due.of(near + "way a c 30;way c b 30;"), 0, 9, 0, 1560, 1, 1740);
        row(Due.of(near + "way a c 30;way c b 31;"), 0, 9, 0, 1560);
        Due.promise(22, "(the shortest)");
        row(Due.of(near + "way a b 61;way a c 30;way c b 30;"), 0, 9, 0, 1560, 1, 1740);
        row(Due.of(near + "way a b 60;way a c 30;way c b 31;"), 0, 9, 0, 1560, 1, 1740);
    }

    private static void inOneTown() {
        Due.promise(22, "in one TOWN, the end of one second hour being the beginning of the next first one");
        row(Due.of("town a;back 0 at 24;back 1 at 1;"), 0, 1, 0, 1440, 0, 1560);
        Due.promise(22, "away and back again");
        row(Due.of("town a;back 1 at 1;back 1000 at 1;town b;back 500 at 1;way a b 9999;"), 0, 3649, 0, 1500, 1, 720060, 0, 1440120);
        row(Due.of("town a;back 1 at 1;back 3 at 1;town b;back 2 at 1;way a b 9999;"), 0, 3649, 0, 1500, 0, 4440);
    }

    private static void anyTownAtTheBeginning() {
        Due.promise(22, "One is in any TOWN at the beginning");
        row(Due.of("town a;town b;town c;back 0 at 1;"), 0, 9, 2, 60);
        row(Due.of("town a;back 5 at 1;town b;back 0 at 1;way a b 9999;"), 0, 9, 1, 60);
        row(Due.of("town a;back 8 at 1;town b;back 0 at 1;way a b 9999;"), 0, 9, 1, 60, 0, 11580);
    }

    private static void theMost() {
        Due.promise(22, "the most hours had twice");
        row(Due.of("town a;back 1 at 1;town b;back 1 at 2;back 2 at 2;"), 0, 9, 1, 1560, 1, 3060);
        row(Due.of("town a;back 1 at 1;back 3 at 3;back 5 at 5;town b;back 1 at 2;back 2 at 2;"), 0, 9, 0, 1500, 0, 4560, 0, 7620);
    }

    private static void firstByMinute() {
        Due.promise(23, "of equal ones the first row: the first putting back by its true minute");
        row(Due.of("town a;back 1 at 2;town b;back 1 at 1;"), 0, 9, 1, 1500);
        row(Due.of("town a;back 1 at 1;town b;back 1 at 2;"), 0, 9, 0, 1500);
    }

    private static void firstByTown() {
        Due.promise(23, "then by its TOWN");
        row(Due.of("town a;back 1 at 1;town b;back 1 at 1;town c;back 1 at 1;"), 0, 9, 0, 1500);
        row(Due.of("town a;town b;back 1 at 1;town c;back 1 at 1;"), 0, 9, 1, 1500);
        row(Due.of("town a;back 1 at 1;town b;back 1 at 1;back 2 at 1;town c;back 1 at 1;back 2 at 1;"), 0, 9, 1, 1500, 1, 3000);
    }

    private static void thenTheSecond() {
        Due.promise(23, "then the second one, and so on: by its true minute");
        row(Due.of("town a;back 1 at 1;town b;back 2 at 6;town c;back 2 at 5;way a b 1;way a c 1;"), 0, 9, 0, 1500, 2, 3180);
        Due.promise(23, "then the second one, and so on: by its TOWN");
        row(Due.of("town a;back 1 at 1;town b;back 2 at 6;town c;back 2 at 6;way a b 1;way a c 1;"), 0, 9, 0, 1500, 1, 3240);
        Due.promise(23, "the first of the row counts more than the second");
        row(Due.of("town a;back 1 at 1;back 3 at 1;town b;back 1 at 2;back 2 at 1;"), 0, 9, 0, 1500, 0, 4440);
    }

    private static void goesRange() {
        HourAgain x = Due.of("town a;back 1 at 1;back 2 at 1;");
        Due.promise(23, "what 0: its TOWN, 1: the true minute of putting back");
        row(x, 0, 9, 0, 1500, 0, 3000);
        Due.promise(23, "NONE: others");
        int[] places = {-1, 2, 3, 35, 36, MIN, MAX};
        for (int i : places) {
            Due.dueNone("goes(0, 9, " + i + ", 0)", x.goes(0, 9, i, 0));
            Due.dueNone("goes(0, 9, " + i + ", 1)", x.goes(0, 9, i, 1));
        }
        int[] whats = {-1, 2, 3, MIN, MAX};
        for (int what : whats) {
            Due.dueNone("goes(0, 9, 0, " + what + ")", x.goes(0, 9, 0, what));
            Due.dueNone("goes(0, 9, 1, " + what + ")", x.goes(0, 9, 1, what));
        }
        Due.dueNone("of none", x.goes(3, 9, 0, 0));
    }

    private static void all() {
        StringBuilder text = new StringBuilder();
        int[] want = new int[72];
        for (int town = 0; town < 3; town++) {
            text.append("town ").append((char) ('a' + town)).append(';');
            for (int i = 0; i < 12; i++) {
                int day = 3 * i + town;
                text.append("back ").append(day).append(" at 5;");
                want[2 * day] = town;
                want[2 * day + 1] = day * 1440 + 300 + 60 * i;
            }
        }
        Due.promise(22, "all 36 puttings back told, all of them had");
        row(Due.of(text + "way a b 1000;way b c 1000;way c a 1000;"), 0, 35, want);
        Due.promise(22, "all 36 told, 12 of them had");
        Due.due("most(0, 35)", Due.of(text.toString()).most(0, 35), 12);
        Due.due("goes(0, 35, 11, 0)", Due.of(text.toString()).goes(0, 35, 11, 0), 0);
        Due.dueNone("goes(0, 35, 12, 0)", Due.of(text.toString()).goes(0, 35, 12, 0));
    }

    private static void way() {
        HourAgain x = Due.of("town a;town b;town c;way a b 1;");
        Due.promise(24, "0 to itself");
        for (int town = 0; town < 3; town++) {
            Due.due("way(" + town + ", " + town + ")", x.way(town, town), 0);
        }
        Due.promise(24, "NONE: none");
        Due.dueNone("way(0, 2)", x.way(0, 2));
        Due.dueNone("way(2, 0)", x.way(2, 0));
        Due.dueNone("way(1, 2)", x.way(1, 2));
        Due.promise(24, "the ends: 1 and 9999 minutes");
        Due.due("way(0, 1)", x.way(0, 1), 1);
        Due.due("way(1, 0)", x.way(1, 0), 1);
        Due.due("way(0, 1)", Due.of("town a;town b;way b a 9999;").way(0, 1), 9999);
        Due.promise(24, "none told");
        Due.dueNone("way(0, 1)", Due.of("town a;town b;").way(0, 1));
    }

    private static void shortest() {
        String three = "town a;town b;town c;";
        Due.promise(24, "The shortest way: over a third TOWN where there is none else");
        String[] over = {"way a b 9999;way b c 9999;", "way b a 9999;way a c 9999;", "way a c 9999;way c b 9999;"};
        int[][] ends = {{0, 2}, {1, 2}, {0, 1}};
        for (int i = 0; i < 3; i++) {
            HourAgain x = Due.of(three + over[i]);
            Due.due("way", x.way(ends[i][0], ends[i][1]), 19998);
            Due.due("way, turned", x.way(ends[i][1], ends[i][0]), 19998);
        }
        Due.promise(24, "The shortest way: by one minute");
        Due.due("as long", Due.of(three + "way a b 10;way a c 5;way c b 5;").way(0, 1), 10);
        Due.due("the longer straight one", Due.of(three + "way a b 11;way a c 5;way c b 5;").way(0, 1), 10);
        Due.due("the shorter straight one", Due.of(three + "way a b 9;way a c 5;way c b 5;").way(0, 1), 9);
    }

    private static void wayRange() {
        HourAgain[] some = {Due.of("town a;town b;town c;way a b 1;way b c 1;way a c 1;"), Due.of("town a;")};
        for (int k = 0; k < 2; k++) {
            HourAgain x = some[k];
            int[] towns = {-1, k == 0 ? 3 : 1, 4, MIN, MAX};
            Due.promise(24, "NONE: others");
            for (int town : towns) {
                Due.dueNone("way(" + town + ", 0)", x.way(town, 0));
                Due.dueNone("way(0, " + town + ")", x.way(0, town));
                Due.dueNone("way(" + town + ", " + town + ")", x.way(town, town));
            }
        }
    }

    /** TOWN and minute of each stop. */
    private static void row(HourAgain x, int from, int to, int... want) {
        Due.due("most(" + from + ", " + to + ")", x.most(from, to), want.length / 2);
        for (int i = 0; i < want.length; i++) {
            Due.due("goes(" + from + ", " + to + ", " + i / 2 + ", " + i % 2 + ")", x.goes(from, to, i / 2, i % 2), want[i]);
        }
        Due.dueNone("goes behind the last", x.goes(from, to, want.length / 2, 0));
        Due.dueNone("goes behind the last", x.goes(from, to, want.length / 2, 1));
    }
}
