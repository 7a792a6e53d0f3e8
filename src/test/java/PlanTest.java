/** Promises 15 to 18: work, best, order, begins. */
public final class PlanTest {
    public static void main(String[] args) {
        parts();
        plain();
        withTheHour();
        gap();
        ties();
        rows();
        daysAround();
        afterAnotherBook();
        Due.end("PlanTest");
    }

    private static void parts() {
        HourAgain x = Due.of("work v day 1 from 2 to 3 long 4 worth 5; work w day 3649 from 0 to 1440 long 1440 worth 999;");
        int[][] want = {{1, 2, 3, 4, 5}, {3649, 0, 1440, 1440, 999}};
        for (int work = 0; work < 2; work++) {
            for (int what = 0; what < 5; what++) {
                Due.due("work(" + work + ", " + what + ")", x.work(work, what), want[work][what]);
            }
            Due.due("work, what -1", x.work(work, -1), -1);
            Due.due("work, what 5", x.work(work, 5), -1);
        }
        Due.due("work(-1, 0)", x.work(-1, 0), -1);
        Due.due("work(2, 0)", x.work(2, 0), -1);
        Due.due("no TOWN: best", x.best(1, 0), -1);
        Due.due("no TOWN: order", x.order(1, 0), -1);
        Due.due("no TOWN: begins", x.begins(1, 0), -1);
    }

    private static void plain() {
        HourAgain x = Due.of("town d; work v day 2 from 0 to 10 long 10 worth 3; work w day 2 from 0 to 10 long 9 worth 3;");
        best(x, 2, 6, 3, 0, 6);
        row(x, 2, 1, 0);
        starts(x, 2, 2880, 2889);
        best(x, 1, 0, 0, 0, 0);
        row(x, 1);
        int[] none = {-1, 3650, Integer.MAX_VALUE, Integer.MIN_VALUE};
        for (int wrong : none) {
            Due.due("best of no day", x.best(wrong, 0), -1);
            Due.due("order of no day", x.order(wrong, 0), -1);
            Due.due("begins of no day", x.begins(wrong, 0), -1);
            Due.due("best, no such what", x.best(2, wrong == 3650 ? 4 : wrong), -1);
            Due.due("order, no such i", x.order(2, wrong == 3650 ? 2 : wrong), -1);
            Due.due("begins, no such i", x.begins(2, wrong == 3650 ? 2 : wrong), -1);
        }
        // It may end when it will, but begins earlier than to.
        HourAgain y = Due.of("town d; work v day 0 from 1439 to 1440 long 1440 worth 1; work w day 0 from 1438 to 1440 long 1 worth 1;");
        best(y, 0, 2, 3, 0, 2);
        row(y, 0, 1, 0);
        starts(y, 0, 1438, 1439);
    }

    private static void withTheHour() {
        HourAgain x = Due.of("town d; back 1 at 2; work bake day 1 from 60 to 120 long 70 worth 5;"
            + "work sell day 1 from 60 to 120 long 60 worth 7; work rest day 1 from 0 to 60 long 60 worth 1;");
        best(x, 1, 13, 7, 5, 8);
        row(x, 1, 2, 0, 1);
        starts(x, 1, 1440, 1500, 1570);
        // The clock of TOWN 0 alone is asked.
        HourAgain y = Due.of("town c; town d; back 1 at 2; work bake day 1 from 60 to 120 long 70 worth 5;"
            + "work sell day 1 from 60 to 120 long 60 worth 7;");
        best(y, 1, 7, 2, 0, 7);
        // At 24 the hour again is still of that day.
        HourAgain z = Due.of("town d; back 4 at 24; work v day 4 from 1438 to 1440 long 2 worth 1;"
            + "work w day 4 from 1438 to 1440 long 60 worth 1; work u day 5 from 0 to 1 long 1 worth 9;");
        best(z, 4, 2, 3, 1, 1);
        row(z, 4, 0, 1);
        starts(z, 4, 5 * 1440 - 2, 5 * 1440 + 58);
        best(z, 5, 9, 4, 0, 9);
        starts(z, 5, 5 * 1440 + 60);
    }

    /** Works that can begin ahead of the stroke's hour ends and again behind it, not between. */
    private static void gap() {
        HourAgain x = Due.of("town d; back 0 at 2; work v day 0 from 60 to 70 long 15 worth 2; work w day 0 from 60 to 70 long 5 worth 2;"
            + "work u day 0 from 70 to 100 long 5 worth 1;");
        best(x, 0, 5, 7, 0, 5);
        row(x, 0, 0, 1, 2);
        starts(x, 0, 60, 120, 130);
    }

    private static void ties() {
        HourAgain x = Due.of("town d; work a day 1 from 0 to 1 long 5 worth 4; work b day 1 from 0 to 1 long 5 worth 4;"
            + "work c day 1 from 0 to 1 long 5 worth 4; work e day 1 from 9 to 10 long 1 worth 0;");
        best(x, 1, 4, 1, 0, 4);
        row(x, 1, 0);
        HourAgain y = Due.of("town d; work a day 1 from 0 to 2 long 5 worth 3; work b day 1 from 0 to 2 long 1 worth 1;"
            + "work c day 1 from 0 to 2 long 1 worth 1; work e day 1 from 0 to 1 long 1 worth 4;");
        best(y, 1, 7, 9, 0, 7);
        row(y, 1, 3, 0);
        starts(y, 1, 1440, 1441);
    }

    private static void rows() {
        HourAgain x = Due.of("town d; work a day 1 from 100 to 900 long 10 worth 1; work b day 1 from 0 to 900 long 10 worth 1;"
            + "work c day 1 from 0 to 500 long 10 worth 1;");
        best(x, 1, 3, 7, 0, 3);
        row(x, 1, 0, 1, 2);
        starts(x, 1, 1540, 1550, 1560);
        HourAgain y = Due.of("town d; work a day 1 from 100 to 900 long 10 worth 1; work b day 1 from 0 to 900 long 10 worth 1;"
            + "work c day 1 from 0 to 100 long 10 worth 1;");
        row(y, 1, 1, 2, 0);
        starts(y, 1, 1440, 1450, 1540);
        StringBuilder eight = new StringBuilder("town d; back 1 at 3;");
        for (int i = 0; i < 8; i++) {
            eight.append("work ").append((char) ('k' + i)).append(" day 1 from ").append(120).append(" to ")
                .append(180 - i).append(" long 16 worth 1;");
        }
        HourAgain z = Due.of(eight.toString());
        best(z, 1, 8, 255, 4, 4);
        row(z, 1, 0, 1, 2, 3, 4, 5, 6, 7);
        starts(z, 1, 1560, 1576, 1592, 1608, 1624, 1640, 1656, 1672);
    }

    /** Those put back on earlier days count, with the hour and PLAIN. */
    private static void daysAround() {
        HourAgain x = Due.of("town d; back 1 at 24; back 0 at 1; back 3 at 1; work a day 2 from 0 to 5 long 5 worth 1;"
            + "work b day 2 from 0 to 5 long 5 worth 2; work c day 3 from 0 to 60 long 60 worth 1; work e day 3 from 0 to 60 long 60 worth 1;");
        best(x, 2, 2, 2, 0, 2);
        starts(x, 2, 2880 + 120);
        best(x, 3, 2, 12, 1, 1);
        starts(x, 3, 4320 + 120, 4320 + 180);
        best(x, 2, 2, 2, 0, 2);
    }

    private static void afterAnotherBook() {
        HourAgain x = Due.of("town d; work a day 1 from 0 to 1 long 5 worth 4;");
        best(x, 1, 4, 1, 0, 4);
        Due.due("another", Due.read(x, "town d; work a day 1 from 0 to 1 long 5 worth 5; work b day 1 from 5 to 9 long 1 worth 1;"), 0);
        best(x, 1, 6, 3, 0, 6);
        row(x, 1, 0, 1);
        Due.due("a FAULT", Due.read(x, "town d; work a day 1 from 0 to 1 long 5 worth 9; work b;"), 1 + 16 * 55);
        best(x, 1, 6, 3, 0, 6);
    }

    private static void best(HourAgain x, int day, int... want) {
        for (int what = 0; what < 4; what++) {
            Due.due("best(" + day + ", " + what + ")", x.best(day, what), want[what]);
        }
    }

    private static void row(HourAgain x, int day, int... want) {
        for (int i = 0; i < want.length; i++) {
            Due.due("order(" + day + ", " + i + ")", x.order(day, i), want[i]);
        }
        Due.due("order behind the last", x.order(day, want.length), -1);
        Due.due("begins behind the last", x.begins(day, want.length), -1);
    }

    private static void starts(HourAgain x, int day, int... want) {
        for (int i = 0; i < want.length; i++) {
            Due.due("begins(" + day + ", " + i + ")", x.begins(day, i), want[i]);
        }
    }
}
