/** Promises 25 to 27: wage, deed, none. */
public final class WageTest {
    public static void main(String[] args) {
        wages();
        deeds();
        nones();
        Due.end("WageTest");
    }

    private static void wages() {
        HourAgain x = Due.of("town a; back 1 at 2; back 2 at 24; town b;");
        wage(x, 0, 1, 60, 1, 180, 60, 120, 180, 180, 120);
        wage(x, 0, 1, 60, 1, 60, 60, 0, 0, 60, 0);
        wage(x, 0, 1, 119, 1, 60, 60, 0, 0, 1, 0);
        wage(x, 0, 1, 120, 1, 60, 60, 0, 0, 0, 0);
        wage(x, 0, 1, 0, 1, 60, 7, 7, 7, 14, 7);
        wage(x, 0, 1, 60, 1, 61, 7, 0, 0, 7, 0);
        wage(x, 0, 1, 60, 1, 119, 61, 59, 59, 120, 0);
        wage(x, 0, 1, 60, 2, 1380, 60, 2760, 2820, 2880, 2760);
        wage(x, 0, 1, 60, 2, 1380, 0, 0, 0, 0, 0);
        wage(x, 1, 1, 60, 1, 180, 60, 120, 120, 120, 120);
        int all = 3650 * 1440 - 1;
        wage(x, 0, 0, 0, 3649, 1439, 999, (int) (all * 999L / 60), (int) ((all + 120) * 999L / 60),
            (int) ((all + 120) * 999L / 60), (int) ((all + 120) * 999L / 60));
        wage(x, 0, 3649, 1439, 0, 0, 999, 0, 0, 0, 0);
        int[][] wrong = {{-1, 1, 1, 1, 1, 1, 0}, {2, 1, 1, 1, 1, 1, 0}, {0, -1, 1, 1, 1, 1, 0}, {0, 3650, 1, 1, 1, 1, 0},
            {0, 1, -1, 1, 1, 1, 0}, {0, 1, 1440, 1, 1, 1, 0}, {0, 1, 1, -1, 1, 1, 0}, {0, 1, 1, 3650, 1, 1, 0},
            {0, 1, 1, 1, -1, 1, 0}, {0, 1, 1, 1, 1440, 1, 0}, {0, 1, 1, 1, 1, -1, 0}, {0, 1, 1, 1, 1, 1000, 0},
            {0, 1, 1, 1, 1, 1, -1}, {0, 1, 1, 1, 1, 1, 4}};
        for (int[] w : wrong) {
            Due.dueThrow("wage of none such", () -> x.wage(w[0], w[1], w[2], w[3], w[4], w[5], w[6]));
        }
    }

    private static void deeds() {
        HourAgain x = Due.of("town a; back 1 at 2; town b; back 1 at 3; town c;");
        int[][] want = {{0, 1550, 30, 0, -30}, {0, 1559, 1, 0, -59}, {0, 1500, 60, 0, 0}, {0, 1500, 59, 0, 59},
            {0, 1560, 30, 0, 30}, {0, 1500, 61, 0, 1}, {0, 1500, 60, 1, 60}, {1, 1560, 0, 0, -60}, {0, 1560, 0, 1, 60},
            {1, 1600, 20, 2, 20}, {2, 1600, 20, 1, -40}, {2, 0, 9999, 0, 9939}, {2, 0, 0, 2, 0},
            {0, 9999999, 9999, 0, 9999}, {2, 9999999, 9999, 0, 9939}, {0, 9999999, 0, 2, 60}};
        for (int[] w : want) {
            Due.due("deed(" + w[0] + ", " + w[1] + ", " + w[2] + ", " + w[3] + ")", x.deed(w[0], w[1], w[2], w[3]), w[4]);
        }
        int[][] wrong = {{-1, 0, 0, 0}, {3, 0, 0, 0}, {0, -1, 0, 0}, {0, 10000000, 0, 0}, {0, 0, -1, 0}, {0, 0, 10000, 0},
            {0, 0, 0, -1}, {0, 0, 0, 3}, {0, Integer.MAX_VALUE, Integer.MAX_VALUE, 0}};
        for (int[] w : wrong) {
            Due.dueThrow("deed of none such", () -> x.deed(w[0], w[1], w[2], w[3]));
        }
    }

    private static void nones() {
        HourAgain x = Due.of("town a; back 1 at 2; back 3 at 24; back 4 at 1; town b;");
        int[][] want = {{0, 1, 0, 1440}, {0, 1, 1, 1}, {0, 1, 30, 30}, {0, 1, 60, 60}, {0, 1, 61, 0}, {0, 1, 120, 0},
            {0, 0, 30, 0}, {0, 2, 30, 0}, {0, 0, 0, 1440}, {0, 3, 60, 60}, {0, 4, 60, 60}, {0, 3, 59, 59}, {0, 5, 1, 0},
            {0, 3, 120, 0}, {0, 3, 180, 0}, {1, 1, 30, 0}, {1, 1, 0, 1440}, {0, 3649, 9999, 0},
            {0, 1, 10000, -1}, {0, 1, -1, -1}, {0, 0, -1, -1}, {0, -1, 1, -1}, {0, 3650, 1, -1}, {-1, 1, 1, -1}, {2, 1, 1, -1}};
        for (int[] w : want) {
            Due.due("none(" + w[0] + ", " + w[1] + ", " + w[2] + ")", x.none(w[0], w[1], w[2]), w[3]);
        }
    }

    private static void wage(HourAgain x, int town, int day, int minutes, int day2, int minutes2, int rate, int... want) {
        for (int how = 0; how < 4; how++) {
            Due.due("wage(" + town + ", " + day + ", " + minutes + ", " + day2 + ", " + minutes2 + ", " + rate + ", " + how + ")",
                x.wage(town, day, minutes, day2, minutes2, rate, how), want[how]);
        }
    }
}
