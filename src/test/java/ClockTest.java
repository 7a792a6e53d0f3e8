/** Promises 4 to 7: shown, moment, backs, between. */
public final class ClockTest {
    public static void main(String[] args) {
        oneBack();
        neighbours();
        twelve();
        others();
        Due.end("ClockTest");
    }

    private static void oneBack() {
        HourAgain x = Due.of("town a; back 1 at 2; town b;");
        int[][] shown = {{0, 0}, {1439, 1439}, {1440, 1440}, {1559, 1559}, {1560, 1500}, {1561, 1501},
            {1619, 1559}, {1620, 1560}, {9999999, 9999939}};
        for (int[] pair : shown) {
            Due.due("shown(0, " + pair[0] + ")", x.shown(0, pair[0]), pair[1]);
            Due.due("shown(1, " + pair[0] + ")", x.shown(1, pair[0]), pair[0]);
        }
        Due.due("backs(0, 1559)", x.backs(0, 1559), 0);
        Due.due("backs(0, 1560)", x.backs(0, 1560), 1);
        Due.due("backs(0, 0)", x.backs(0, 0), 0);
        Due.due("backs(1, 9999999)", x.backs(1, 9999999), 0);
        moments(x, 0, 1, 59, 1499, -1);
        moments(x, 0, 1, 60, 1500, 1560);
        moments(x, 0, 1, 119, 1559, 1619);
        moments(x, 0, 1, 120, 1620, -1);
        moments(x, 0, 0, 60, 60, -1);
        moments(x, 0, 2, 60, 3000, -1);
        moments(x, 1, 1, 60, 1500, -1);
        moments(x, 0, 3649, 1439, 3650 * 1440 + 59, -1);
        betweens(x, 1, 60, 1, 120, 60, 120, 2);
        betweens(x, 1, 120, 1, 60, -120, -60, 2);
        betweens(x, 1, 60, 1, 61, -59, 61, 3);
        betweens(x, 1, 60, 1, 60, -60, 60, 3);
        betweens(x, 0, 0, 3649, 1439, 3650 * 1440 + 59, 3650 * 1440 + 59, 1);
        betweens(x, 2, 5, 2, 5, 0, 0, 1);
    }

    /** A day put back at 24 ahead of one at 1, told the other way round; and the ends of all days. */
    private static void neighbours() {
        HourAgain x = Due.of("town a; back 3649 at 24; back 6 at 1; back 5 at 24; back 0 at 1;");
        moments(x, 0, 0, 0, 0, 60);
        moments(x, 0, 0, 59, 59, 119);
        moments(x, 0, 0, 60, 120, -1);
        int sixth = 6 * 1440;
        moments(x, 0, 5, 1379, sixth - 61 + 60, -1);
        moments(x, 0, 5, 1380, sixth - 60 + 60, sixth + 60);
        moments(x, 0, 5, 1439, sixth - 1 + 60, sixth - 1 + 120);
        moments(x, 0, 6, 0, sixth + 120, sixth + 180);
        moments(x, 0, 6, 59, sixth + 179, sixth + 239);
        moments(x, 0, 6, 60, sixth + 60 + 180, -1);
        int last = 3650 * 1440;
        moments(x, 0, 3649, 1379, last - 61 + 180, -1);
        moments(x, 0, 3649, 1380, last - 60 + 180, last + 180);
        moments(x, 0, 3649, 1439, last - 1 + 180, last - 1 + 240);
        Due.due("shown(0, 60)", x.shown(0, 60), 0);
        Due.due("shown at the sixth day's first beginning", x.shown(0, sixth + 60), sixth - 60);
        Due.due("shown just ahead", x.shown(0, sixth + 59), sixth - 1);
        Due.due("backs(0, 60)", x.backs(0, 60), 1);
        Due.due("backs by day 5's", x.backs(0, sixth + 60), 2);
        Due.due("backs by day 6's", x.backs(0, sixth + 180), 3);
        Due.due("backs just ahead of it", x.backs(0, sixth + 179), 2);
        Due.due("backs by the last", x.backs(0, last + 180), 4);
        Due.due("backs ahead of the last", x.backs(0, last + 179), 3);
        betweens(x, 5, 1439, 6, 0, 1, 121, 3);
        betweens(x, 6, 0, 5, 1439, -121, -1, 3);
        betweens(x, 5, 1380, 5, 1439, -1, 119, 3);
    }

    private static void twelve() {
        StringBuilder text = new StringBuilder("town a;");
        for (int day = 11; day >= 0; day--) {
            text.append("back ").append(day).append(" at 12;");
        }
        HourAgain x = Due.of(text.toString());
        for (int day = 0; day < 12; day++) {
            int minute = day * 1440 + 720 + 60 * day;
            Due.due("backs ahead of day " + day, x.backs(0, minute - 1), day);
            Due.due("backs of day " + day, x.backs(0, minute), day + 1);
            Due.due("shown then", x.shown(0, minute), day * 1440 + 660);
            moments(x, 0, day, 660, minute - 60, minute);
            moments(x, 0, day, 720, minute + 60, -1);
        }
        Due.due("backs at the end", x.backs(0, 9999999), 12);
        Due.due("shown at the end", x.shown(0, 9999999), 9999999 - 720);
    }

    private static void others() {
        HourAgain x = Due.of("town a; back 1 at 2;");
        int[][] wrongTimes = {{-1, 1, 60}, {1, 1, 60}, {3, 1, 60}, {0, -1, 60}, {0, 3650, 60}, {0, 1, -1}, {0, 1, 1440},
            {Integer.MIN_VALUE, 0, 0}, {0, Integer.MAX_VALUE, 0}, {0, 0, Integer.MIN_VALUE}};
        for (int[] w : wrongTimes) {
            for (int what = 0; what <= 2; what++) {
                int asked = what;
                Due.due("moment of none such", x.moment(w[0], w[1], w[2], what), -1);
                Due.dueThrow("between of none such", () -> x.between(w[0], w[1], w[2], 1, 60, asked));
                Due.dueThrow("between to none such", () -> x.between(w[0], 1, 60, w[1], w[2], asked));
            }
        }
        Due.due("moment, what -1", x.moment(0, 1, 60, -1), -1);
        Due.due("moment, what 3", x.moment(0, 1, 60, 3), -1);
        Due.dueThrow("between, what -1", () -> x.between(0, 1, 60, 1, 60, -1));
        Due.dueThrow("between, what 3", () -> x.between(0, 1, 60, 1, 60, 3));
        int[][] wrongMinutes = {{-1, 5}, {1, 5}, {0, -1}, {0, 10000000}, {0, Integer.MAX_VALUE}, {0, Integer.MIN_VALUE}};
        for (int[] w : wrongMinutes) {
            Due.dueThrow("shown of none such", () -> x.shown(w[0], w[1]));
            Due.dueThrow("backs of none such", () -> x.backs(w[0], w[1]));
        }
    }

    private static void moments(HourAgain x, int town, int day, int minutes, int first, int second) {
        String time = "(" + town + ", " + day + ", " + minutes + ")";
        Due.due("moments of " + time, x.moment(town, day, minutes, 0), second == -1 ? 1 : 2);
        Due.due("first of " + time, x.moment(town, day, minutes, 1), first);
        Due.due("second of " + time, x.moment(town, day, minutes, 2), second);
    }

    private static void betweens(HourAgain x, int day, int minutes, int day2, int minutes2, int... want) {
        for (int what = 0; what <= 2; what++) {
            Due.due("between(0, " + day + ", " + minutes + ", " + day2 + ", " + minutes2 + ", " + what + ")",
                x.between(0, day, minutes, day2, minutes2, what), want[what]);
        }
    }
}
