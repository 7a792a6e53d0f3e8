/** Promises 15 to 18: the edges of works and PLANS, each sentence by itself. */
public final class PlanEdgesTest {
    private static final int MIN = Integer.MIN_VALUE;
    private static final int MAX = Integer.MAX_VALUE;
    private static final int LAST_DAY = 3649 * 1440;

    public static void main(String[] args) {
        parts();
        none();
        range();
        oneBehindTheOther();
        fromAndTo();
        endsWhenItWill();
        theHour();
        strokesAtTheEnds();
        plain();
        gain();
        most();
        leastAsBits();
        firstRow();
        earlyAsCanBe();
        eight();
        townNought();
        Due.end("PlanEdgesTest");
    }

    private static void parts() {
        HourAgain x = Due.of("work v day 0 from 0 to 1 long 1 worth 0;work w day 3649 from 1439 to 1440 long 1440 worth 999;work u day 1 from 2 to 3 long 4 worth 5;");
        Due.promise(15, "what 0: its day, 1: from, 2: to, 3: how long, 4: worth");
        int[][] want = {{0, 0, 1, 1, 0}, {3649, 1439, 1440, 1440, 999}, {1, 2, 3, 4, 5}};
        for (int work = 0; work < 3; work++) {
            for (int what = 0; what < 5; what++) {
                Due.due("work(" + work + ", " + what + ")", x.work(work, what), want[work][what]);
            }
        }
        Due.promise(15, "NONE: others");
        int[] whats = {-1, 5, 6, MIN, MAX};
        int[] works = {-1, 3, 4, 7, 8, MIN, MAX};
        for (int work = 0; work < 3; work++) {
            for (int what : whats) {
                Due.dueNone("work(" + work + ", " + what + ")", x.work(work, what));
            }
        }
        for (int work : works) {
            for (int what = 0; what < 5; what++) {
                Due.dueNone("work(" + work + ", " + what + ")", x.work(work, what));
            }
        }
        Due.dueNone("of a new object", new HourAgain().work(0, 0));
    }

    private static void none() {
        HourAgain[] without = {new HourAgain(), Due.of("work v day 1 from 0 to 1 long 1 worth 1;"), Due.of("person p;")};
        for (HourAgain x : without) {
            Due.promise(16, "NONE: no TOWN");
            for (int what = 0; what < 4; what++) {
                Due.dueNone("best(1, " + what + ")", x.best(1, what));
            }
            Due.promise(17, "NONE: others, no TOWN");
            Due.dueNone("order(1, 0)", x.order(1, 0));
            Due.promise(18, "NONE: likewise, no TOWN");
            Due.dueNone("begins(1, 0)", x.begins(1, 0));
        }
        Due.promise(16, "no works on that day: worth 0, of none");
        HourAgain[] empty = {Due.of("town d;"), Due.of("town d;back 1 at 2;work v day 2 from 0 to 1 long 1 worth 1;")};
        for (HourAgain x : empty) {
            row(x, 1, 0, 0, 0, 0);
            row(x, 0, 0, 0, 0, 0);
            row(x, 3649, 0, 0, 0, 0);
        }
    }

    private static void range() {
        HourAgain x = Due.of("town d;work v day 0 from 0 to 1 long 1 worth 3;work w day 3649 from 0 to 1 long 1 worth 4;work u day 3649 from 5 to 6 long 1 worth 4;");
        Due.promise(16, "a day (0 to 3649)");
        row(x, 0, 3, 1, 0, 3, 0, 0);
        row(x, 3649, 8, 6, 0, 8, 1, LAST_DAY, 2, LAST_DAY + 5);
        int[] days = {-1, 3650, 3651, MIN, MAX};
        int[] whats = {-1, 4, 5, MIN, MAX};
        int[] places = {-1, 2, 3, 7, 8, MIN, MAX};
        for (int day : days) {
            for (int what = 0; what < 4; what++) {
                Due.promise(16, "NONE: others, of days");
                Due.dueNone("best(" + day + ", " + what + ")", x.best(day, what));
            }
            Due.promise(17, "NONE: others, of days");
            Due.dueNone("order(" + day + ", 0)", x.order(day, 0));
            Due.promise(18, "NONE: likewise, of days");
            Due.dueNone("begins(" + day + ", 0)", x.begins(day, 0));
        }
        Due.promise(16, "NONE: others, of what");
        for (int what : whats) {
            Due.dueNone("best(3649, " + what + ")", x.best(3649, what));
        }
        for (int i : places) {
            Due.promise(17, "NONE: none such");
            Due.dueNone("order(3649, " + i + ")", x.order(3649, i));
            Due.promise(18, "NONE: likewise, none such");
            Due.dueNone("begins(3649, " + i + ")", x.begins(3649, i));
        }
        Due.promise(17, "NONE: none such, one behind the last");
        Due.dueNone("order(0, 1)", x.order(0, 1));
        Due.promise(18, "NONE: likewise, one behind the last");
        Due.dueNone("begins(0, 1)", x.begins(0, 1));
        Due.promise(16, "of one day: the works of others are none");
        row(x, 1, 0, 0, 0, 0);
    }

    private static void oneBehindTheOther() {
        Due.promise(16, "one behind the other, each for as long as told: the next may begin when it ends");
        row(Due.of("town d;work v day 1 from 0 to 1 long 9 worth 1;work w day 1 from 9 to 10 long 1 worth 1;"), 1, 2, 3, 0, 2, 0, 1440, 1, 1449);
        Due.promise(16, "one behind the other: not a minute earlier");
        row(Due.of("town d;work v day 1 from 0 to 1 long 10 worth 1;work w day 1 from 9 to 10 long 1 worth 2;"), 1, 2, 2, 0, 2, 1, 1449);
        Due.promise(18, "as early as can be behind the one ahead");
        row(Due.of("town d;work v day 1 from 5 to 10 long 3 worth 1;work w day 1 from 0 to 100 long 3 worth 1;"), 1, 2, 3, 0, 2, 0, 1445, 1, 1448);
    }

    private static void fromAndTo() {
        Due.promise(18, "from or later");
        row(Due.of("town d;work v day 1 from 7 to 9 long 1 worth 1;"), 1, 1, 1, 0, 1, 0, 1447);
        Due.promise(16, "earlier than to");
        String ahead = "town d;work v day 1 from 0 to 1 long 9 worth 1;work w day 1 from 0 to ";
        row(Due.of(ahead + "10 long 100 worth 1;"), 1, 2, 3, 0, 2, 0, 1440, 1, 1449);
        row(Due.of(ahead + "9 long 100 worth 1;"), 1, 1, 1, 0, 1, 0, 1440);
        Due.promise(16, "shows that day: its first and its last minute");
        row(Due.of("town d;work v day 1 from 0 to 1 long 1439 worth 1;work w day 1 from 1439 to 1440 long 1 worth 1;"), 1, 2, 3, 0, 2, 0, 1440, 1, 2879);
        row(Due.of("town d;work v day 1 from 0 to 1 long 1440 worth 1;work w day 1 from 0 to 1440 long 1 worth 1;"), 1, 1, 1, 0, 1, 0, 1440);
    }

    private static void endsWhenItWill() {
        Due.promise(16, "it may end when it will");
        row(Due.of("town d;work v day 1 from 1439 to 1440 long 1440 worth 1;work w day 2 from 0 to 1 long 1 worth 1;"), 1, 1, 1, 0, 1, 0, 2879);
        row(Due.of("town d;work v day 3649 from 1439 to 1440 long 1440 worth 1;"), 3649, 1, 1, 0, 1, 0, LAST_DAY + 1439);
        Due.promise(16, "each in one go, of true minutes: over the putting back");
        row(Due.of("town d;back 1 at 2;work v day 1 from 60 to 61 long 61 worth 1;work w day 1 from 61 to 62 long 1 worth 1;"), 1, 2, 3, 1, 1, 0, 1500, 1, 1561);
    }

    private static void theHour() {
        Due.promise(16, "at a true minute at which the clock shows it: either of the two");
        String hour = "town d;back 1 at 2;work v day 1 from 60 to 61 long ";
        row(Due.of(hour + "60 worth 1;work w day 1 from 60 to 61 long 1 worth 1;"), 1, 2, 3, 1, 1, 0, 1500, 1, 1560);
        row(Due.of(hour + "61 worth 1;work w day 1 from 60 to 61 long 61 worth 1;"), 1, 1, 1, 0, 1, 0, 1500);
        Due.promise(16, "not between the two");
        row(Due.of("town d;back 1 at 2;work v day 1 from 60 to 62 long 3 worth 1;work w day 1 from 60 to 62 long 9 worth 1;"), 1, 2, 3, 1, 1, 0, 1500, 1, 1560);
        Due.promise(16, "the last minute ahead of the stroke, had twice; the stroke's own, had once");
        row(Due.of("town d;back 1 at 2;work v day 1 from 119 to 120 long 60 worth 1;work w day 1 from 119 to 120 long 60 worth 1;"), 1, 2, 3, 1, 1, 0, 1559, 1, 1619);
        row(Due.of("town d;back 1 at 2;work v day 1 from 120 to 121 long 1 worth 1;work w day 1 from 120 to 121 long 1 worth 1;"), 1, 1, 1, 0, 1, 0, 1620);
        row(Due.of("town d;back 1 at 2;work v day 1 from 59 to 60 long 1 worth 1;work w day 1 from 59 to 60 long 1 worth 1;"), 1, 1, 1, 0, 1, 0, 1499);
        Due.promise(16, "each in its own minutes, not in those that another one has twice");
        row(Due.of("town d;back 1 at 2;work v day 1 from 60 to 61 long 1 worth 1;work w day 1 from 200 to 201 long 1 worth 1;work u day 1 from 200 to 201 long 1 worth 1;"),
            1, 2, 3, 0, 2, 0, 1500, 1, 1700);
        row(Due.of("town d;back 1 at 2;work v day 1 from 200 to 201 long 1 worth 1;work w day 1 from 60 to 61 long 1 worth 1;work u day 1 from 200 to 201 long 1 worth 1;"),
            1, 2, 3, 0, 2, 1, 1500, 0, 1700);
        Due.promise(16, "a row over the whole of both hours");
        row(Due.of("town d;back 1 at 2;work v day 1 from 0 to 180 long 120 worth 1;work w day 1 from 0 to 120 long 59 worth 1;work u day 1 from 0 to 120 long 1 worth 1;"),
            1, 3, 7, 0, 3, 0, 1440, 1, 1560, 2, 1619);
    }

    private static void strokesAtTheEnds() {
        Due.promise(16, "put back at 24: the hour again is of that day");
        HourAgain x = Due.of("town d;back 1 at 24;work v day 1 from 1439 to 1440 long 1 worth 1;work w day 1 from 1439 to 1440 long 1 worth 1;"
            + "work u day 2 from 0 to 1 long 1 worth 1;");
        row(x, 1, 2, 3, 1, 1, 0, 2879, 1, 2939);
        row(x, 2, 1, 4, 0, 1, 2, 2940);
        Due.promise(16, "put back at 1: the hour again begins the day");
        row(Due.of("town d;back 1 at 1;work v day 1 from 0 to 1 long 1 worth 1;work w day 1 from 0 to 1 long 1 worth 1;"), 1, 2, 3, 1, 1, 0, 1440, 1, 1500);
        Due.promise(16, "put back at 24 of one day and at 1 of the next");
        HourAgain y = Due.of("town d;back 1 at 24;back 2 at 1;work v day 2 from 0 to 1 long 1 worth 1;work w day 2 from 0 to 1 long 1 worth 1;"
            + "work s day 1 from 1380 to 1381 long 1 worth 1;work u day 1 from 1380 to 1381 long 1 worth 1;");
        row(y, 1, 2, 12, 1, 1, 2, 2820, 3, 2880);
        row(y, 2, 2, 3, 1, 1, 0, 2940, 1, 3000);
        Due.promise(16, "the first of all days and the last");
        row(Due.of("town d;back 0 at 1;work v day 0 from 0 to 1 long 1 worth 1;work w day 0 from 0 to 1 long 1 worth 1;"), 0, 2, 3, 1, 1, 0, 0, 1, 60);
        row(Due.of("town d;back 3649 at 24;work v day 3649 from 1439 to 1440 long 9 worth 1;work w day 3649 from 1439 to 1440 long 9 worth 1;"), 3649, 2, 3, 1, 1,
            0, LAST_DAY + 1439, 1, LAST_DAY + 1499);
    }

    private static void plain() {
        Due.promise(16, "PLAIN: as if the clock of TOWN 0 were not put back on that day");
        String works = "work v day 5 from 60 to 70 long 10 worth 3;work w day 5 from 60 to 70 long 10 worth 4;work u day 5 from 130 to 131 long 1 worth 2;";
        HourAgain x = Due.of("town d;back 5 at 2;" + works);
        row(x, 5, 9, 7, 3, 6, 0, 7260, 1, 7320, 2, 7390);
        Due.promise(16, "PLAIN (on others as told)");
        HourAgain y = Due.of("town d;back 4 at 24;back 5 at 2;back 6 at 1;" + works);
        row(y, 5, 9, 7, 3, 6, 0, 7320, 1, 7380, 2, 7450);
        HourAgain z = Due.of("town d;back 4 at 24;back 6 at 1;" + works);
        row(z, 5, 6, 6, 0, 6, 1, 7320, 2, 7390);
    }

    private static void gain() {
        Due.promise(16, "GAIN: how much more than the most worth PLAIN");
        String two = "work v day 1 from 60 to 61 long 1 worth 999;work w day 1 from 60 to 61 long 1 worth 999;";
        Due.due("GAIN", Due.of("town d;back 1 at 2;" + two).best(1, 2), 999);
        Due.promise(16, "GAIN 0: not put back, or of no use");
        Due.due("not put back", Due.of("town d;" + two).best(1, 2), 0);
        Due.due("another hour", Due.of("town d;back 1 at 3;" + two).best(1, 2), 0);
        Due.due("worth 0", Due.of("town d;back 1 at 2;" + two.replace("999", "0")).best(1, 2), 0);
    }

    private static void most() {
        Due.promise(16, "whose worths are together the most");
        HourAgain x = Due.of("town d;work a day 1 from 0 to 1 long 9 worth 10;work b day 1 from 0 to 5 long 4 worth 5;work c day 1 from 4 to 5 long 4 worth 6;");
        row(x, 1, 11, 6, 0, 11, 1, 1440, 2, 1444);
        HourAgain y = Due.of("town d;work a day 1 from 0 to 1 long 9 worth 12;work b day 1 from 0 to 5 long 4 worth 5;work c day 1 from 4 to 5 long 4 worth 6;");
        row(y, 1, 12, 1, 0, 12, 0, 1440);
    }

    private static void leastAsBits() {
        Due.promise(16, "of equal ones the least as bits");
        String at = " day 1 from 0 to 1 long 1 worth ";
        row(Due.of("town d;work a" + at + "3;work b" + at + "3;work c" + at + "3;"), 1, 3, 1, 0, 3, 0, 1440);
        row(Due.of("town d;work a" + at + "2;work b" + at + "3;work c" + at + "3;"), 1, 3, 2, 0, 3, 1, 1440);
        HourAgain x = Due.of("town d;work a day 1 from 0 to 1 long 1 worth 1;work b day 1 from 1 to 2 long 1 worth 1;work c day 1 from 0 to 1 long 9 worth 2;");
        row(x, 1, 2, 3, 0, 2, 0, 1440, 1, 1441);
        Due.promise(16, "of equal ones the least as bits: what is worth 0 is left out");
        row(Due.of("town d;work a" + at + "0;"), 1, 0, 0, 0, 0);
        row(Due.of("town d;work a day 1 from 5 to 6 long 1 worth 0;work b" + at + "1;"), 1, 1, 2, 0, 1, 1, 1440);
        Due.promise(16, "of equal ones the least as bits, with the hour as well");
        HourAgain y = Due.of("town d;back 1 at 2;work a day 1 from 60 to 61 long 1 worth 5;work b day 1 from 60 to 61 long 1 worth 5;work c day 1 from 60 to 61 long 1 worth 5;");
        row(y, 1, 10, 3, 5, 5, 0, 1500, 1, 1560);
    }

    private static void firstRow() {
        Due.promise(17, "the first row (least numbers first) in which all can be done");
        HourAgain x = Due.of("town d;work a day 1 from 100 to 200 long 10 worth 1;work b day 1 from 0 to 200 long 10 worth 1;work c day 1 from 0 to 200 long 10 worth 1;");
        row(x, 1, 3, 7, 0, 3, 0, 1540, 1, 1550, 2, 1560);
        Due.promise(17, "the first row: a greater number ahead only where it must be");
        HourAgain y = Due.of("town d;work a day 1 from 100 to 200 long 10 worth 1;work b day 1 from 0 to 200 long 10 worth 1;work c day 1 from 0 to 110 long 10 worth 1;");
        row(y, 1, 3, 7, 0, 3, 1, 1440, 2, 1450, 0, 1540);
        HourAgain z = Due.of("town d;work a day 1 from 100 to 200 long 10 worth 1;work b day 1 from 0 to 200 long 10 worth 1;work c day 1 from 0 to 111 long 10 worth 1;");
        row(z, 1, 3, 7, 0, 3, 0, 1540, 2, 1550, 1, 1560);
    }

    private static void earlyAsCanBe() {
        Due.promise(18, "each begins as early as can be behind the one ahead: in the first of the two hours, or else in the second");
        HourAgain x = Due.of("town d;back 1 at 2;work a day 1 from 60 to 70 long 15 worth 1;work b day 1 from 60 to 70 long 5 worth 1;work c day 1 from 75 to 120 long 1 worth 1;");
        row(x, 1, 3, 7, 0, 3, 0, 1500, 1, 1560, 2, 1575);
        Due.promise(18, "at which true minute, behind puttings back of earlier days");
        row(Due.of("town d;back 0 at 1;back 1 at 24;work a day 2 from 0 to 9 long 1 worth 1;"), 2, 1, 1, 0, 1, 0, 3000);
    }

    private static void eight() {
        StringBuilder text = new StringBuilder("town d;back 1 at 24;");
        for (int i = 0; i < 8; i++) {
            text.append("work ").append((char) ('k' + i)).append(" day 1 from 1439 to 1440 long ").append(i == 7 ? 60 : 1).append(" worth 999;");
        }
        Due.promise(16, "all 8 works told");
        row(Due.of(text.toString()), 1, 1998, 3, 999, 999, 0, 2879, 1, 2939);
        StringBuilder all = new StringBuilder("town d;");
        for (int i = 0; i < 8; i++) {
            all.append("work ").append((char) ('k' + i)).append(" day 1 from ").append(100 - i).append(" to ").append(101 - i).append(" long 1 worth 999;");
        }
        Due.promise(17, "all 8 works in the row");
        row(Due.of(all.toString()), 1, 7992, 255, 0, 7992, 7, 1533, 6, 1534, 5, 1535, 4, 1536, 3, 1537, 2, 1538, 1, 1539, 0, 1540);
    }

    private static void townNought() {
        Due.promise(16, "in TOWN 0: its clock, not another one's");
        String works = "work a day 1 from 60 to 61 long 1 worth 1;work b day 1 from 60 to 61 long 1 worth 1;";
        row(Due.of("town d;town e;back 1 at 2;" + works), 1, 1, 1, 0, 1, 0, 1500);
        row(Due.of("town d;back 1 at 2;town e;" + works), 1, 2, 3, 1, 1, 0, 1500, 1, 1560);
        Due.promise(16, "in TOWN 0: told behind the works as well");
        row(Due.of(works + "town d;back 1 at 2;"), 1, 2, 3, 1, 1, 0, 1500, 1, 1560);
    }

    /** Worth, works, GAIN, PLAIN, then each work of the row and its minute. */
    private static void row(HourAgain x, int day, int... want) {
        for (int what = 0; what < 4; what++) {
            Due.due("best(" + day + ", " + what + ")", x.best(day, what), want[what]);
        }
        for (int i = 4; i + 1 < want.length; i += 2) {
            Due.due("order(" + day + ", " + (i - 4) / 2 + ")", x.order(day, (i - 4) / 2), want[i]);
            Due.due("begins(" + day + ", " + (i - 4) / 2 + ")", x.begins(day, (i - 4) / 2), want[i + 1]);
        }
        Due.dueNone("order behind the last", x.order(day, (want.length - 4) / 2));
        Due.dueNone("begins behind the last", x.begins(day, (want.length - 4) / 2));
    }
}
