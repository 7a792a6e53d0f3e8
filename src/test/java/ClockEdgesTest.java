/** Promises 4 to 7: the edges of the clock, each sentence by itself. */
public final class ClockEdgesTest {
    private static final int LAST = 9_999_999;
    private static final int MIN = Integer.MIN_VALUE;
    private static final int MAX = Integer.MAX_VALUE;
    /** The first minute behind the last day, all clocks being never put back. */
    private static final int END = 3650 * 1440;

    public static void main(String[] args) {
        counted();
        stroke();
        firstTime();
        everyStroke();
        shownRange();
        momentRange();
        momentWhat();
        backsBy();
        backsRange();
        between();
        betweenRange();
        Due.end("ClockEdgesTest");
    }

    private static void counted() {
        Due.promise(4, "TRUE minutes are counted from 0, the beginning of day 0, when all clocks show it");
        HourAgain x = Due.of("town a;back 0 at 1;town b;town c;back 3649 at 24;");
        for (int town = 0; town < 3; town++) {
            Due.due("shown(" + town + ", 0)", x.shown(town, 0), 0);
            Due.due("shown(" + town + ", 59)", x.shown(town, 59), 59);
            Due.due("first of day 0, 0", x.moment(town, 0, 0, 1), 0);
        }
        Due.promise(4, "SHOWN: day * 1440 + the minutes on the clock");
        Due.due("shown(1, 1439)", x.shown(1, 1439), 1439);
        Due.due("shown(1, 1440)", x.shown(1, 1440), 1440);
        Due.due("behind the last day", x.shown(1, END), END);
    }

    private static void stroke() {
        Due.promise(4, "it shows an hour less from that true minute on");
        HourAgain x = Due.of("town a;back 1 at 2;");
        int[][] want = {{1499, 1499}, {1500, 1500}, {1559, 1559}, {1560, 1500}, {1561, 1501}, {1619, 1559}, {1620, 1560},
            {1621, 1561}, {2880, 2820}, {2940, 2880}};
        for (int[] w : want) {
            Due.due("shown(0, " + w[0] + ")", x.shown(0, w[0]), w[1]);
        }
        Due.promise(5, "so the hour ahead of the stroke is had twice");
        int[][] moments = {{59, 1, 1499, -1}, {60, 2, 1500, 1560}, {61, 2, 1501, 1561}, {119, 2, 1559, 1619}, {120, 1, 1620, -1},
            {121, 1, 1621, -1}};
        for (int[] m : moments) {
            moments(x, 1, m[0], m[1], m[2], m[3]);
        }
        Due.promise(5, "only on that day");
        moments(x, 0, 60, 1, 60, -1);
        moments(x, 2, 60, 1, 3000, -1);
    }

    private static void firstTime() {
        Due.promise(4, "When the clock comes to the stroke for the first time");
        HourAgain x = Due.of("town a;back 5 at 24;back 6 at 1;");
        int sixth = 6 * 1440;
        int[][] want = {{-1, -1}, {0, -60}, {59, -1}, {60, 0}, {119, 59}, {120, 0}, {179, 59}, {180, 60}, {181, 61}};
        for (int[] w : want) {
            Due.due("shown at the sixth day's beginning + " + w[0], x.shown(0, sixth + w[0]), sixth + w[1]);
        }
        Due.promise(5, "two puttings back, the one right behind the other");
        moments(x, 5, 1379, 1, sixth - 61, -1);
        moments(x, 5, 1380, 2, sixth - 60, sixth);
        moments(x, 5, 1439, 2, sixth - 1, sixth + 59);
        moments(x, 6, 0, 2, sixth + 60, sixth + 120);
        moments(x, 6, 59, 2, sixth + 119, sixth + 179);
        moments(x, 6, 60, 1, sixth + 180, -1);
        Due.promise(4, "the row in which the days are told is free");
        HourAgain y = Due.of("town a;back 6 at 1;back 5 at 24;");
        for (int[] w : want) {
            Due.due("shown at the sixth day's beginning + " + w[0], y.shown(0, sixth + w[0]), sixth + w[1]);
        }
    }

    private static void everyStroke() {
        Due.promise(4, "the stroke (1 to 24), the day (0 to 3649): at their ends and between");
        int[] days = {0, 1, 1825, 3648, 3649};
        for (int day : days) {
            for (int stroke = 1; stroke <= 24; stroke++) {
                HourAgain x = Due.of("town a;back " + day + " at " + stroke + ";");
                int at = day * 1440 + stroke * 60;
                Due.due("shown ahead of it", x.shown(0, at - 1), at - 1);
                Due.due("shown then", x.shown(0, at), at - 60);
                Due.due("shown an hour behind it", x.shown(0, at + 60), at);
                moments(x, day, stroke * 60 - 60, 2, at - 60, at);
                moments(x, day, stroke * 60 - 1, 2, at - 1, at + 59);
                Due.due("backs ahead of it", x.backs(0, at - 1), 0);
                Due.due("backs then", x.backs(0, at), 1);
                if (stroke < 24) {
                    moments(x, day, stroke * 60, 1, at + 60, -1);
                }
                if (stroke > 1) {
                    moments(x, day, stroke * 60 - 61, 1, at - 61, -1);
                }
            }
        }
    }

    private static void shownRange() {
        HourAgain x = Due.of("town a;back 3649 at 24;town b;");
        Due.promise(4, "a true minute (0 to 9,999,999)");
        Due.due("shown(0, 0)", x.shown(0, 0), 0);
        Due.due("shown(0, the last)", x.shown(0, LAST), LAST - 60);
        Due.due("shown(1, the last)", x.shown(1, LAST), LAST);
        Due.promise(4, "NoSuchElementException: others, of minutes");
        int[] minutes = {-1, MIN, LAST + 1, MAX};
        for (int minute : minutes) {
            Due.dueThrow("shown(0, " + minute + ")", () -> x.shown(0, minute));
        }
        Due.promise(4, "NoSuchElementException: others, of TOWNS");
        int[] towns = {-1, 2, 3, MIN, MAX};
        for (int town : towns) {
            Due.dueThrow("shown(" + town + ", 0)", () -> x.shown(town, 0));
        }
        Due.dueThrow("of a new object", () -> new HourAgain().shown(0, 0));
        HourAgain three = Due.of("town a;town b;town c;");
        Due.due("shown(2, 5)", three.shown(2, 5), 5);
        Due.dueThrow("shown(3, 5)", () -> three.shown(3, 5));
    }

    private static void momentRange() {
        HourAgain x = Due.of("town a;town b;back 0 at 1;back 3649 at 24;");
        Due.promise(5, "a clock time (a day 0 to 3649, 0 to 1439 minutes)");
        moments(x, 0, 0, 1, 0, -1);
        moments(x, 3649, 1439, 1, END - 1, -1);
        Due.due("two at the first", x.moment(1, 0, 0, 0), 2);
        Due.due("the second of the first", x.moment(1, 0, 0, 2), 60);
        Due.due("two at the last", x.moment(1, 3649, 1439, 0), 2);
        Due.due("the first of the last", x.moment(1, 3649, 1439, 1), END + 59);
        Due.due("the second of the last", x.moment(1, 3649, 1439, 2), END + 119);
        Due.promise(5, "NONE: others");
        int[][] none = {{0, -1, 0}, {0, 3650, 0}, {0, MIN, 0}, {0, MAX, 0}, {0, 0, -1}, {0, 0, 1440}, {0, 0, MIN}, {0, 0, MAX},
            {-1, 0, 0}, {2, 0, 0}, {3, 0, 0}, {MIN, 0, 0}, {MAX, 0, 0}, {0, -1, 1440}, {0, 1, -1440}, {0, 3650, -1}};
        for (int[] n : none) {
            for (int what = 0; what <= 2; what++) {
                Due.dueNone("moment(" + n[0] + ", " + n[1] + ", " + n[2] + ", " + what + ")", x.moment(n[0], n[1], n[2], what));
            }
        }
        Due.dueNone("of a new object", new HourAgain().moment(0, 0, 0, 0));
    }

    private static void momentWhat() {
        HourAgain x = Due.of("town a;back 1 at 2;");
        Due.promise(5, "what 0: how many, 1: the first, 2: the second one");
        moments(x, 1, 60, 2, 1500, 1560);
        Due.promise(5, "2: the second one, NONE where the hour is had once");
        Due.dueNone("moment(0, 1, 59, 2)", x.moment(0, 1, 59, 2));
        Due.dueNone("moment(0, 1, 120, 2)", x.moment(0, 1, 120, 2));
        Due.promise(5, "NONE: others, of what");
        int[] none = {-1, 3, 4, MIN, MAX};
        for (int what : none) {
            Due.dueNone("moment(0, 1, 60, " + what + ")", x.moment(0, 1, 60, what));
        }
    }

    private static void backsBy() {
        StringBuilder text = new StringBuilder("town b;town a;");
        for (int day = 0; day < 12; day++) {
            text.append("back ").append(day * 300).append(" at 1;");
        }
        HourAgain x = Due.of(text.toString());
        Due.promise(6, "put back then or earlier");
        for (int i = 0; i < 12; i++) {
            int at = i * 300 * 1440 + 60 + 60 * i;
            Due.due("ahead of it", x.backs(1, at - 1), i);
            Due.due("then", x.backs(1, at), i + 1);
            Due.due("behind it", x.backs(1, at + 1), i + 1);
        }
        Due.promise(6, "none, all 12");
        Due.due("backs(1, 0)", x.backs(1, 0), 0);
        Due.due("backs(1, the last)", x.backs(1, LAST), 12);
        Due.promise(6, "in a TOWN: each its own");
        Due.due("backs(0, the last)", x.backs(0, LAST), 0);
    }

    private static void backsRange() {
        HourAgain x = Due.of("town a;back 0 at 1;town b;");
        Due.promise(6, "a true minute (0 to 9,999,999)");
        Due.due("backs(0, 0)", x.backs(0, 0), 0);
        Due.due("backs(0, the last)", x.backs(0, LAST), 1);
        Due.promise(6, "NoSuchElementException: others");
        int[][] others = {{0, -1}, {0, MIN}, {0, LAST + 1}, {0, MAX}, {-1, 0}, {2, 0}, {3, 0}, {MIN, 0}, {MAX, 0}};
        for (int[] o : others) {
            Due.dueThrow("backs(" + o[0] + ", " + o[1] + ")", () -> x.backs(o[0], o[1]));
        }
        Due.dueThrow("of a new object", () -> new HourAgain().backs(0, 0));
    }

    private static void between() {
        HourAgain x = Due.of("town a;back 1 at 2;back 2 at 3;");
        Due.promise(7, "the least, the most, how many unlike: both had once");
        betweens(x, 1, 0, 1, 59, 59, 59, 1);
        betweens(x, 1, 59, 1, 120, 121, 121, 1);
        betweens(x, 1, 120, 1, 59, -121, -121, 1);
        Due.promise(7, "the first had twice");
        betweens(x, 1, 60, 1, 120, 60, 120, 2);
        betweens(x, 1, 119, 1, 59, -120, -60, 2);
        Due.promise(7, "the second had twice");
        betweens(x, 1, 59, 1, 60, 1, 61, 2);
        betweens(x, 1, 120, 1, 119, -61, -1, 2);
        Due.promise(7, "both had twice");
        betweens(x, 1, 60, 1, 119, -1, 119, 3);
        betweens(x, 1, 119, 1, 60, -119, 1, 3);
        betweens(x, 1, 119, 2, 120, 1441 - 60 + 60, 1441 + 60 + 60, 3);
        betweens(x, 2, 120, 1, 119, -1441 - 120, -1441, 3);
        Due.promise(7, "the same clock time, had twice and once");
        betweens(x, 1, 90, 1, 90, -60, 60, 3);
        betweens(x, 1, 120, 1, 120, 0, 0, 1);
        Due.promise(7, "from the first of all clock times to the last, and back");
        betweens(x, 0, 0, 3649, 1439, END - 1 + 120, END - 1 + 120, 1);
        betweens(x, 3649, 1439, 0, 0, 1 - END - 120, 1 - END - 120, 1);
    }

    private static void betweenRange() {
        HourAgain x = Due.of("town a;back 1 at 2;town b;");
        Due.promise(7, "NoSuchElementException: others");
        int[][] others = {{-1, 1, 1, 1, 1}, {2, 1, 1, 1, 1}, {3, 1, 1, 1, 1}, {0, -1, 1, 1, 1}, {0, 3650, 1, 1, 1}, {0, 1, -1, 1, 1},
            {0, 1, 1440, 1, 1}, {0, 1, 1, -1, 1}, {0, 1, 1, 3650, 1}, {0, 1, 1, 1, -1}, {0, 1, 1, 1, 1440}, {MIN, 1, 1, 1, 1},
            {MAX, 1, 1, 1, 1}, {0, MIN, 1, 1, 1}, {0, MAX, 1, 1, 1}, {0, 1, MIN, 1, 1}, {0, 1, MAX, 1, 1}, {0, 1, 1, MIN, 1},
            {0, 1, 1, MAX, 1}, {0, 1, 1, 1, MIN}, {0, 1, 1, 1, MAX}};
        for (int[] o : others) {
            for (int what = 0; what <= 2; what++) {
                int w = what;
                Due.dueThrow("between", () -> x.between(o[0], o[1], o[2], o[3], o[4], w));
            }
        }
        int[] whats = {-1, 3, 4, MIN, MAX};
        for (int what : whats) {
            Due.dueThrow("between, what " + what, () -> x.between(0, 1, 60, 1, 120, what));
        }
        Due.dueThrow("of a new object", () -> new HourAgain().between(0, 0, 0, 0, 0, 0));
        Due.promise(7, "in a TOWN: each its own");
        Due.due("between(1, ..)", x.between(1, 1, 60, 1, 120, 1), 60);
    }

    private static void moments(HourAgain x, int day, int minutes, int many, int first, int second) {
        String time = "(0, " + day + ", " + minutes + ")";
        Due.due("MOMENTS of " + time, x.moment(0, day, minutes, 0), many);
        Due.due("first of " + time, x.moment(0, day, minutes, 1), first);
        Due.due("second of " + time, x.moment(0, day, minutes, 2), second);
    }

    private static void betweens(HourAgain x, int day, int minutes, int day2, int minutes2, int... want) {
        for (int what = 0; what <= 2; what++) {
            Due.due("between(0, " + day + ", " + minutes + ", " + day2 + ", " + minutes2 + ", " + what + ")",
                x.between(0, day, minutes, day2, minutes2, what), want[what]);
        }
    }
}
