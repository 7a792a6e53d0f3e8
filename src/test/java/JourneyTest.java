/** Promises 22 to 24: most, goes, way. */
public final class JourneyTest {
    public static void main(String[] args) {
        ways();
        borders();
        firstRow();
        days();
        afterAnotherBook();
        Due.end("JourneyTest");
    }

    private static void ways() {
        String three = "town a; town b; town c;";
        HourAgain x = Due.of(three + "way a b 5; way b c 6;");
        int[][] want = {{0, 5, 11}, {5, 0, 6}, {11, 6, 0}};
        ways(x, want);
        ways(Due.of(three + "way a b 5; way b c 6; way a c 12;"), want);
        ways(Due.of(three + "way a b 5; way b c 6; way c a 10;"), new int[][] {{0, 5, 10}, {5, 0, 6}, {10, 6, 0}});
        ways(Due.of(three + "way c a 9999;"), new int[][] {{0, -1, 9999}, {-1, 0, -1}, {9999, -1, 0}});
        ways(Due.of(three + "way c a 9999; way c b 9999;"), new int[][] {{0, 19998, 9999}, {19998, 0, 9999}, {9999, 9999, 0}});
        int[][] beyond = {{3, 0}, {0, 3}, {3, 3}, {4, 0}, {0, 4}, {4, 4}, {-1, 2}, {2, -1}};
        for (int[] n : beyond) {
            Due.due("way beyond three TOWNS", x.way(n[0], n[1]), -1);
        }
        HourAgain two = Due.of("town a; town b;");
        Due.due("way(0, 1) of none", two.way(0, 1), -1);
        Due.due("way(1, 1)", two.way(1, 1), 0);
        int[][] none = {{-1, 0}, {0, -1}, {2, 2}, {0, 2}, {2, 0}, {3, 3}, {-1, -1}, {Integer.MAX_VALUE, 0}};
        for (int[] n : none) {
            Due.due("way of none such", two.way(n[0], n[1]), -1);
        }
    }

    private static void ways(HourAgain x, int[][] want) {
        for (int a = 0; a < 3; a++) {
            for (int b = 0; b < 3; b++) {
                Due.due("way(" + a + ", " + b + ")", x.way(a, b), want[a][b]);
            }
        }
    }

    private static void borders() {
        // From 60 ahead to 60 behind: from 1560 + 60 to 1740 - 60 one has just 60 minutes.
        String text = "town a; back 1 at 2; town b; back 1 at 5;";
        row(Due.of(text + "way a b 60;"), 0, 9, 0, 1560, 1, 1740);
        row(Due.of(text + "way a b 61;"), 0, 9, 0, 1560);
        row(Due.of(text), 0, 9, 0, 1560);
        row(Due.of(text + "town c; way a c 30; way c b 30;"), 0, 9, 0, 1560, 1, 1740);
        row(Due.of(text + "town c; way a c 30; way c b 31;"), 0, 9, 0, 1560);
        // In one TOWN the end of one second hour may be the beginning of the next first one.
        row(Due.of("town a; back 0 at 24; back 1 at 1;"), 0, 1, 0, 1440, 0, 1560);
        row(Due.of("town a;"), 0, 3649);
    }

    private static void firstRow() {
        // Two at the same minute: the TOWN with the lesser number.
        row(Due.of("town a; back 3 at 9; town b; back 3 at 9; way a b 1;"), 0, 9, 0, 4860);
        // The earlier one comes first, whatever the TOWN.
        row(Due.of("town a; back 3 at 9; town b; back 3 at 8; way a b 1;"), 0, 9, 1, 4800);
        // The longest row goes over the later one.
        row(Due.of("town a; back 3 at 9; town b; back 3 at 8; town c; back 3 at 14; way a c 5;"), 0, 9, 0, 4860, 2, 5160);
        // The first stop is the same, the second ones differ by minute, then by TOWN.
        row(Due.of("town a; back 1 at 1; town b; back 2 at 6; town c; back 2 at 5; way a b 1; way a c 1;"), 0, 9, 0, 1500, 2, 3180);
        row(Due.of("town a; back 1 at 1; town b; back 2 at 6; town c; back 2 at 6; way a b 1; way a c 1;"), 0, 9, 0, 1500, 1, 3240);
        StringBuilder all = new StringBuilder();
        int[] want = new int[72];
        for (int town = 0; town < 3; town++) {
            all.append("town ").append((char) ('k' + town)).append(';');
            for (int i = 0; i < 12; i++) {
                int day = 3 * i + town;
                all.append("back ").append(day).append(" at 5;");
                want[2 * day] = town;
                want[2 * day + 1] = day * 1440 + 300 + 60 * i;
            }
        }
        all.append("way k l 1; way l m 1;");
        HourAgain x = Due.of(all.toString());
        row(x, 0, 35, want);
        Due.due("most(0, 3649)", x.most(0, 3649), 36);
    }

    private static void days() {
        HourAgain x = Due.of("town a; back 5 at 24; back 2 at 3; back 3649 at 1; town b;");
        row(x, 0, 3649, 0, 3060, 0, 8700, 0, 3649 * 1440 + 180);
        row(x, 2, 5, 0, 3060, 0, 8700);
        row(x, 3, 5, 0, 8700);
        row(x, 5, 5, 0, 8700);
        row(x, 6, 6);
        row(x, 3, 4);
        row(x, 3649, 3649, 0, 3649 * 1440 + 180);
        int[][] none = {{-1, 5}, {0, 3650}, {5, 4}, {-5, -1}, {3650, 3650}, {Integer.MIN_VALUE, Integer.MAX_VALUE}};
        for (int[] n : none) {
            Due.due("most of none such", x.most(n[0], n[1]), -1);
            Due.due("goes of none such", x.goes(n[0], n[1], 0, 0), -1);
        }
        Due.due("goes, i -1", x.goes(0, 9, -1, 0), -1);
        Due.due("goes, what -1", x.goes(0, 9, 0, -1), -1);
        Due.due("goes, what 2", x.goes(0, 9, 0, 2), -1);
    }

    private static void afterAnotherBook() {
        HourAgain x = Due.of("town a; back 5 at 24;");
        row(x, 0, 9, 0, 8640);
        Due.due("another", Due.read(x, "town a; back 5 at 23; back 6 at 1;"), 0);
        row(x, 0, 9, 0, 8580, 0, 8760);
        Due.due("another", Due.read(x, "town a;"), 0);
        row(x, 0, 9);
        Due.due("without", x.book(), 0);
        Due.due("most(0, 9)", x.most(0, 9), -1);
    }

    /** TOWN and minute of each stop. */
    private static void row(HourAgain x, int from, int to, int... want) {
        Due.due("most(" + from + ", " + to + ")", x.most(from, to), want.length / 2);
        for (int i = 0; i < want.length; i++) {
            Due.due("goes(" + from + ", " + to + ", " + i / 2 + ", " + i % 2 + ")", x.goes(from, to, i / 2, i % 2), want[i]);
        }
        Due.due("goes behind the last", x.goes(from, to, want.length / 2, 0), -1);
        Due.due("goes behind the last", x.goes(from, to, want.length / 2, 1), -1);
    }
}
