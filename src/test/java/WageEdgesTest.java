/** Promises 25 to 27: the edges of WAGES and DEEDS, each sentence by itself. */
public final class WageEdgesTest {
    private static final int MIN = Integer.MIN_VALUE;
    private static final int MAX = Integer.MAX_VALUE;
    private static final int LAST = 9_999_999;

    public static void main(String[] args) {
        byTheClock();
        byTrueMinutes();
        noLess();
        cut();
        most();
        wageRange();
        deed();
        deedElsewhere();
        deedEnds();
        deedRange();
        none();
        noneLengths();
        noneDays();
        noneRange();
        Due.end("WageEdgesTest");
    }

    private static void byTheClock() {
        HourAgain x = Due.of("town a;back 1 at 2;town b;");
        Due.promise(25, "0 by the clock alone");
        wage(x, 0, 1, 59, 1, 120, 60, 0, 61);
        wage(x, 0, 1, 60, 1, 120, 60, 0, 60);
        wage(x, 0, 1, 60, 1, 60, 60, 0, 0);
        wage(x, 0, 1, 60, 1, 61, 60, 0, 1);
        Due.promise(25, "of a TOWN: each its own clock");
        for (int how = 0; how < 4; how++) {
            wage(x, 1, 1, 59, 1, 120, 60, how, 61);
        }
    }

    private static void byTrueMinutes() {
        HourAgain x = Due.of("town a;back 1 at 2;");
        int[][] times = {{59, 120}, {60, 120}, {119, 120}, {59, 60}, {59, 119}, {60, 119}, {60, 60}, {119, 60}, {0, 59}, {120, 180}};
        int[][] paid = {{121, 121, 121}, {120, 120, 60}, {61, 61, 1}, {1, 61, 1}, {60, 120, 60}, {59, 119, 0}, {0, 60, 0}, {0, 1, 0},
            {59, 59, 59}, {60, 60, 60}};
        String[] hows = {"1 by true minutes, from the first MOMENT of the one to the first of the other", "2 from the first to the last",
            "3 from the last to the first"};
        for (int how = 1; how <= 3; how++) {
            Due.promise(25, hows[how - 1]);
            for (int i = 0; i < times.length; i++) {
                wage(x, 0, 1, times[i][0], 1, times[i][1], 60, how, paid[i][how - 1]);
            }
        }
    }

    private static void noLess() {
        HourAgain x = Due.of("town a;back 1 at 2;");
        Due.promise(25, "all no less than 0");
        for (int how = 0; how < 4; how++) {
            wage(x, 0, 1, 120, 1, 59, 999, how, 0);
            wage(x, 0, 3649, 1439, 0, 0, 999, how, 0);
            wage(x, 0, 5, 0, 4, 1439, 999, how, 0);
        }
        Due.promise(25, "all no less than 0: to an earlier clock time that was later");
        wage(x, 0, 1, 119, 1, 60, 60, 0, 0);
        wage(x, 0, 1, 119, 1, 60, 60, 1, 0);
        wage(x, 0, 1, 119, 1, 60, 60, 2, 1);
        wage(x, 0, 1, 120, 1, 60, 60, 2, 0);
    }

    private static void cut() {
        HourAgain x = Due.of("town a;");
        Due.promise(25, "a rate for each hour: the product by 60, cut");
        int[][] want = {{1, 59, 0}, {1, 60, 1}, {59, 1, 0}, {60, 1, 1}, {61, 1, 1}, {119, 1, 1}, {120, 1, 2}, {7, 17, 1}, {17, 7, 1}, {7, 18, 2}};
        for (int[] w : want) {
            wage(x, 0, 1, 0, 1, w[0], w[1], 0, w[2]);
        }
        Due.promise(25, "a rate (0 to 999), its ends");
        wage(x, 0, 1, 0, 1, 1439, 0, 0, 0);
        wage(x, 0, 1, 0, 1, 60, 999, 0, 999);
    }

    private static void most() {
        Due.promise(25, "from the first of all clock times to the last, with all 12 put back");
        StringBuilder text = new StringBuilder("town a;");
        for (int day = 0; day < 12; day++) {
            text.append("back ").append(day == 11 ? 3649 : day).append(day == 11 ? " at 24;" : " at 1;");
        }
        HourAgain x = Due.of(text.toString());
        wage(x, 0, 0, 0, 3649, 1439, 999, 0, (int) (5255999L * 999 / 60));
        wage(x, 0, 0, 0, 3649, 1439, 999, 1, (int) ((5255999L + 660) * 999 / 60));
        wage(x, 0, 0, 0, 3649, 1439, 999, 2, (int) ((5255999L + 720) * 999 / 60));
        wage(x, 0, 0, 0, 3649, 1439, 999, 3, (int) ((5255999L + 600) * 999 / 60));
    }

    private static void wageRange() {
        HourAgain x = Due.of("town a;back 1 at 2;town b;");
        Due.promise(25, "NoSuchElementException: others");
        int[] fine = {0, 1, 1, 1, 2, 60, 0};
        int[][] others = {{-1, 2, 3, MIN, MAX}, {-1, 3650, MIN, MAX}, {-1, 1440, MIN, MAX}, {-1, 3650, MIN, MAX}, {-1, 1440, MIN, MAX},
            {-1, 1000, MIN, MAX}, {-1, 4, 5, MIN, MAX}};
        for (int at = 0; at < 7; at++) {
            for (int other : others[at]) {
                int[] w = fine.clone();
                w[at] = other;
                Due.dueThrow("wage with " + other + " at " + at, () -> x.wage(w[0], w[1], w[2], w[3], w[4], w[5], w[6]));
            }
        }
        Due.dueThrow("of a new object", () -> new HourAgain().wage(0, 0, 0, 0, 0, 0, 0));
        Due.dueThrow("to an earlier one, too", () -> x.wage(0, 5, 0, 4, 1440, 1, 0));
        Due.promise(25, "how (0 to 3): each is one");
        for (int how = 0; how < 4; how++) {
            wage(x, 0, 1, 1, 1, 2, 60, how, 1);
        }
    }

    private static void deed() {
        HourAgain x = Due.of("town a;back 1 at 2;");
        Due.promise(26, "how much the clock there shows above what it showed here");
        deed(x, 0, 1499, 60, 0, 60);
        deed(x, 0, 1560, 60, 0, 60);
        deed(x, 0, 1560, 1, 0, 1);
        Due.promise(26, "it may be 0");
        deed(x, 0, 1500, 60, 0, 0);
        deed(x, 0, 1559, 60, 0, 0);
        Due.promise(26, "it may be less");
        deed(x, 0, 1559, 1, 0, -59);
        deed(x, 0, 1501, 59, 0, -1);
        Due.promise(26, "over the stroke, and just not");
        deed(x, 0, 1500, 59, 0, 59);
        deed(x, 0, 1499, 61, 0, 1);
        deed(x, 0, 1559, 0, 0, 0);
        deed(x, 0, 1560, 0, 0, 0);
        Due.promise(26, "over two puttings back, the one right behind the other");
        HourAgain y = Due.of("town a;back 5 at 24;back 6 at 1;");
        deed(y, 0, 8639, 121, 0, 1);
        deed(y, 0, 8639, 120, 0, 60);
        deed(y, 0, 8640, 120, 0, 60);
    }

    private static void deedElsewhere() {
        HourAgain x = Due.of("town a;back 1 at 2;town b;back 1 at 3;town c;");
        Due.promise(26, "ended in another one");
        deed(x, 0, 1559, 1, 1, 1);
        deed(x, 0, 1560, 0, 1, 60);
        deed(x, 1, 1560, 0, 0, -60);
        deed(x, 1, 1559, 1, 0, -59);
        deed(x, 1, 1619, 1, 2, 1);
        deed(x, 2, 1619, 1, 1, -59);
        deed(x, 1, 1620, 60, 2, 120);
        Due.promise(26, "or the same");
        for (int town = 0; town < 3; town++) {
            deed(x, town, 0, 0, town, 0);
            deed(x, town, LAST, 0, town, 0);
        }
    }

    private static void deedEnds() {
        HourAgain x = Due.of("town a;back 1 at 2;town b;");
        Due.promise(26, "so long (0 to 9999)");
        deed(x, 1, 0, 0, 1, 0);
        deed(x, 1, 0, 9999, 1, 9999);
        deed(x, 0, 0, 9999, 0, 9939);
        Due.promise(26, "at a true minute (0 to 9,999,999), ended behind them as well");
        deed(x, 1, LAST, 9999, 1, 9999);
        deed(x, 1, LAST, 9999, 0, 9939);
        deed(x, 0, LAST, 1, 1, 61);
    }

    private static void deedRange() {
        HourAgain x = Due.of("town a;back 1 at 2;town b;");
        Due.promise(26, "NoSuchElementException: others");
        int[] fine = {0, 1, 1, 1};
        int[][] others = {{-1, 2, 3, MIN, MAX}, {-1, LAST + 1, MIN, MAX}, {-1, 10000, MIN, MAX}, {-1, 2, 3, MIN, MAX}};
        for (int at = 0; at < 4; at++) {
            for (int other : others[at]) {
                int[] w = fine.clone();
                w[at] = other;
                Due.dueThrow("deed with " + other + " at " + at, () -> x.deed(w[0], w[1], w[2], w[3]));
            }
        }
        Due.dueThrow("of a new object", () -> new HourAgain().deed(0, 0, 0, 0));
    }

    private static void none() {
        HourAgain x = Due.of("town a;back 1 at 2;town b;");
        Due.promise(27, "took no time, or less: 0 long took none, at all 1,440 minutes");
        Due.due("none(0, 1, 0)", x.none(0, 1, 0), 1440);
        Due.due("none(0, 0, 0)", x.none(0, 0, 0), 1440);
        Due.due("none(0, 3649, 0)", x.none(0, 3649, 0), 1440);
        Due.due("none(1, 1, 0)", x.none(1, 1, 0), 1440);
        Due.promise(27, "took no time, or less: on a day that is not put back none");
        Due.due("none(0, 0, 1)", x.none(0, 0, 1), 0);
        Due.due("none(0, 2, 60)", x.none(0, 2, 60), 0);
        Due.due("none(1, 1, 60)", x.none(1, 1, 60), 0);
    }

    private static void noneLengths() {
        Due.promise(27, "How many minutes: as many as it is long, up to 60");
        for (int stroke = 1; stroke <= 24; stroke += stroke == 1 || stroke == 23 ? 1 : 7) {
            HourAgain x = Due.of("town a;back 1 at " + stroke + ";");
            for (int length = 1; length <= 62; length++) {
                Due.due("none(0, 1, " + length + ")", x.none(0, 1, length), length <= 60 ? length : 0);
            }
        }
        Due.promise(27, "so long (0 to 9999): longer than an hour took time");
        HourAgain x = Due.of("town a;back 1 at 24;back 2 at 1;");
        int[] lengths = {61, 119, 120, 121, 180, 181, 240, 1440, 9999};
        for (int length : lengths) {
            Due.due("none(0, 1, " + length + ")", x.none(0, 1, length), 0);
            Due.due("none(0, 2, " + length + ")", x.none(0, 2, length), 0);
        }
        Due.due("none(0, 1, 60)", x.none(0, 1, 60), 60);
        Due.due("none(0, 2, 60)", x.none(0, 2, 60), 60);
    }

    private static void noneDays() {
        Due.promise(27, "of the day on the clock: put back at 24 it is of this day, at 1 of that one");
        HourAgain x = Due.of("town a;back 4 at 24;back 7 at 1;back 0 at 1;back 3649 at 24;");
        int[][] want = {{0, 7}, {1, 0}, {3, 0}, {4, 7}, {5, 0}, {6, 0}, {7, 7}, {8, 0}, {3648, 0}, {3649, 7}};
        for (int[] w : want) {
            Due.due("none(0, " + w[0] + ", 7)", x.none(0, w[0], 7), w[1]);
        }
        Due.promise(27, "begun at their first MOMENT: counted minute by minute");
        for (int length = 0; length <= 61; length += length == 0 ? 1 : 20) {
            int many = 0;
            for (int minutes = 0; minutes < 1440; minutes++) {
                many += x.deed(0, x.moment(0, 4, minutes, 1), length, 0) <= 0 ? 1 : 0;
            }
            Due.due("none(0, 4, " + length + ")", x.none(0, 4, length), many);
        }
    }

    private static void noneRange() {
        HourAgain x = Due.of("town a;back 1 at 2;town b;");
        Due.promise(27, "NONE: others");
        int[] fine = {0, 1, 1};
        int[][] others = {{-1, 2, 3, MIN, MAX}, {-1, 3650, MIN, MAX}, {-1, 10000, MIN, MAX}};
        for (int at = 0; at < 3; at++) {
            for (int other : others[at]) {
                int[] w = fine.clone();
                w[at] = other;
                Due.dueNone("none with " + other + " at " + at, x.none(w[0], w[1], w[2]));
            }
        }
        Due.dueNone("of a new object", new HourAgain().none(0, 0, 0));
        Due.promise(27, "the ends of days and lengths are none of these");
        Due.due("none(0, 3649, 9999)", x.none(0, 3649, 9999), 0);
        Due.due("none(0, 0, 9999)", x.none(0, 0, 9999), 0);
    }

    private static void wage(HourAgain x, int town, int day, int minutes, int day2, int minutes2, int... rest) {
        Due.due("wage(" + town + ", " + day + ", " + minutes + ", " + day2 + ", " + minutes2 + ", " + rest[0] + ", " + rest[1] + ")",
            x.wage(town, day, minutes, day2, minutes2, rest[0], rest[1]), rest[2]);
    }

    private static void deed(HourAgain x, int town, int minute, int length, int other, int want) {
        Due.due("deed(" + town + ", " + minute + ", " + length + ", " + other + ")", x.deed(town, minute, length, other), want);
    }
}
