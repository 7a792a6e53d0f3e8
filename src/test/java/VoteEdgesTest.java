/** Promises 19 to 21: the edges of wishes and VOTES, each sentence by itself. */
public final class VoteEdgesTest {
    private static final int PLAIN = 0;
    private static final int SUM = 1;
    private static final int PLACES = 2;
    private static final int PAIRS = 3;
    private static final int RUN = 4;
    private static final int MOST = 5;
    private static final int MIN = Integer.MIN_VALUE;
    private static final int MAX = Integer.MAX_VALUE;

    public static void main(String[] args) {
        wish();
        voteRange();
        withoutPersons();
        plain();
        sum();
        places();
        pairs();
        run();
        runTies();
        mostAtLeast();
        everyStroke();
        nobodyMinds();
        prefers();
        prefersRange();
        nine();
        askedBehindAnother();
        firstAndLast();
        Due.end("VoteEdgesTest");
    }

    private static void wish() {
        HourAgain x = Due.of("person a hour 1 worth 99 hour 24 worth 98 hour 5 worth 0;person b;");
        Due.promise(19, "What a stroke is worth to a PERSON");
        Due.due("wish(0, 1)", x.wish(0, 1), 99);
        Due.due("wish(0, 24)", x.wish(0, 24), 98);
        Due.due("wish(0, 5)", x.wish(0, 5), 0);
        Due.promise(19, "a stroke that is not told is worth 0");
        Due.due("wish(0, 2)", x.wish(0, 2), 0);
        Due.due("wish(1, 1)", x.wish(1, 1), 0);
        Due.due("wish(1, 24)", x.wish(1, 24), 0);
        Due.promise(19, "NONE: others");
        int[] strokes = {-1, 0, 25, 26, MIN, MAX};
        int[] persons = {-1, 2, 3, 8, 9, MIN, MAX};
        for (int stroke : strokes) {
            Due.dueNone("wish(0, " + stroke + ")", x.wish(0, stroke));
            Due.dueNone("wish(1, " + stroke + ")", x.wish(1, stroke));
        }
        for (int person : persons) {
            Due.dueNone("wish(" + person + ", 1)", x.wish(person, 1));
            Due.dueNone("wish(" + person + ", 24)", x.wish(person, 24));
        }
        Due.dueNone("of a new object", new HourAgain().wish(0, 1));
    }

    private static void voteRange() {
        HourAgain x = Due.of("person a hour 5 worth 1;");
        Due.promise(20, "a way (0 .. 5)");
        for (int way = 0; way <= 5; way++) {
            Due.due("vote(" + way + ")", x.vote(way), 5);
        }
        Due.promise(20, "NONE: others");
        int[] ways = {-1, 6, 7, MIN, MAX};
        for (int way : ways) {
            Due.dueNone("vote(" + way + ")", x.vote(way));
        }
    }

    private static void withoutPersons() {
        Due.promise(20, "Without PERSONS: none");
        HourAgain[] without = {new HourAgain(), Due.of("town a;back 1 at 2;")};
        for (HourAgain x : without) {
            for (int way = -1; way <= 6; way++) {
                Due.dueNone("vote(" + way + ")", x.vote(way));
            }
        }
    }

    private static void plain() {
        Due.promise(20, "PLAIN: each PERSON for the one worth most to them");
        vote(PLAIN, 7, "person a hour 6 worth 98 hour 7 worth 99;");
        Due.promise(20, "PLAIN: (of equal ones the least)");
        vote(PLAIN, 6, "person a hour 7 worth 9 hour 6 worth 9;");
        Due.promise(20, "PLAIN: without a wish it is stroke 1");
        vote(PLAIN, 1, "person a;");
        vote(PLAIN, 1, "person a hour 7 worth 0;");
        Due.promise(20, "PLAIN: the one with the most votes");
        vote(PLAIN, 9, "person a hour 3 worth 99;person b hour 9 worth 1;person c hour 9 worth 1;");
        Due.promise(20, "PLAIN: of equal ones the least stroke is chosen");
        vote(PLAIN, 3, "person a hour 9 worth 1;person b hour 3 worth 1;person c hour 4 worth 1;");
        vote(PLAIN, 3, "person a hour 9 worth 1;person b hour 3 worth 1;person c hour 3 worth 1;person d hour 9 worth 1;");
    }

    private static void sum() {
        Due.promise(20, "SUM: the most worth of all together");
        vote(SUM, 4, "person a hour 3 worth 99;person b hour 4 worth 50;person c hour 4 worth 50;");
        vote(SUM, 3, "person a hour 3 worth 99;person b hour 4 worth 49;person c hour 4 worth 49;");
        Due.promise(20, "SUM: of equal ones the least stroke is chosen");
        vote(SUM, 3, "person a hour 3 worth 99;person b hour 4 worth 50;person c hour 4 worth 49;");
        vote(SUM, 4, "person a hour 24 worth 99;person b hour 4 worth 50;person c hour 4 worth 49;");
    }

    private static void places() {
        Due.promise(20, "PLACES: as many points as there are strokes that are worth less");
        // 3 has 23 of a; 5 has 22 of a and 22 of b, 4 has 23 of b.
        vote(PLACES, 5, "person a hour 3 worth 99 hour 5 worth 1;person b hour 4 worth 99 hour 5 worth 1;");
        Due.promise(20, "PLACES: equal ones are not worth less");
        // 3 and 4 have 22 of a; 4 has 22 of b too, 5 23.
        vote(PLACES, 4, "person a hour 3 worth 9 hour 4 worth 9;person b hour 5 worth 9 hour 4 worth 1;");
        Due.promise(20, "PLACES: of equal ones the least stroke is chosen");
        vote(PLACES, 3, "person a hour 4 worth 9;person b hour 3 worth 1;");
        vote(PLACES, 1, "person a;person b;");
    }

    private static void pairs() {
        Due.promise(20, "PAIRS: beats another one if more PERSONS have it worth more than less");
        vote(PAIRS, 3, "person a hour 3 worth 1;person b hour 3 worth 1;person c hour 4 worth 99;");
        Due.promise(20, "PAIRS: as many are not more");
        vote(PAIRS, -1, "person a hour 3 worth 1;person b hour 4 worth 1;");
        Due.promise(20, "PAIRS: to whom both are worth the same is on no side");
        vote(PAIRS, 3, "person a hour 3 worth 1;person b;person c;");
        Due.promise(20, "PAIRS: the one that beats all others (may be none)");
        vote(PAIRS, -1, "person a hour 3 worth 1 hour 24 worth 1;");
        vote(PAIRS, -1, "person a;");
        vote(PAIRS, -1, "person a hour 1 worth 3 hour 2 worth 2 hour 3 worth 1;person b hour 2 worth 3 hour 3 worth 2 hour 1 worth 1;"
            + "person c hour 3 worth 3 hour 1 worth 2 hour 2 worth 1;");
        Due.promise(20, "PAIRS: all others, the first and the last too");
        vote(PAIRS, 12, "person a hour 1 worth 98 hour 12 worth 99 hour 24 worth 98;");
        vote(PAIRS, -1, "person a hour 1 worth 99 hour 12 worth 99;");
        vote(PAIRS, -1, "person a hour 24 worth 99 hour 12 worth 99;");
    }

    private static void run() {
        Due.promise(20, "RUN: till one has more than half of the votes");
        vote(RUN, 9, "person a hour 9 worth 1;person b hour 9 worth 1;person c hour 2 worth 1;");
        vote(RUN, 9, "person a hour 9 worth 1;person b hour 9 worth 1;person c hour 9 worth 1;person d hour 2 worth 1;person e hour 2 worth 1;");
        Due.promise(20, "RUN: just half is not more");
        // 9 has 2 of 4. 4 is struck out, its vote goes to 2: 2 to 2, and 9 is the greater one.
        vote(RUN, 2, "person a hour 9 worth 5 hour 2 worth 1;person b hour 9 worth 5 hour 2 worth 1;"
            + "person c hour 2 worth 5 hour 9 worth 1;person d hour 4 worth 5 hour 2 worth 1;");
        Due.promise(20, "RUN: the one with the fewest votes of those left is struck out");
        // 5 has 2, 6 has 2, 7 has 1: 7 goes, its vote to 6.
        vote(RUN, 6, "person a hour 5 worth 9;person b hour 5 worth 9;person c hour 6 worth 9;person d hour 6 worth 9;"
            + "person e hour 7 worth 9 hour 6 worth 8;");
        Due.promise(20, "RUN: as PLAIN among those left: of equal ones the least of those");
        // 20 goes, and then, all but 3 and 8 being struck out, its vote is for 3.
        vote(RUN, 3, "person a hour 8 worth 1;person b hour 8 worth 1;person c hour 3 worth 1;person d hour 3 worth 1;person e hour 20 worth 1;");
        // The vote for 20 goes to 3, which has as many as 8 then; it is not lost.
        vote(RUN, 3, "person a hour 8 worth 1;person b hour 8 worth 1;person c hour 3 worth 1;person d hour 20 worth 1;");
        Due.promise(20, "RUN: or just one is left");
        vote(RUN, 8, "person a hour 9 worth 1;person b hour 8 worth 1;");
        vote(RUN, 23, "person a hour 24 worth 2 hour 23 worth 1;person b hour 23 worth 2 hour 24 worth 1;");
    }

    private static void runTies() {
        Due.promise(20, "RUN: struck out (of equal ones the greatest stroke)");
        vote(RUN, 2, "person a hour 9 worth 5;person b hour 2 worth 5;");
        // 24 goes first, its vote to 23; then 23 has 2 of 3.
        vote(RUN, 23, "person a hour 24 worth 2 hour 23 worth 1;person b hour 23 worth 1;person c hour 5 worth 1;");
        // 1 to 4 have a vote each: 4 goes, its vote to 3, which has just half; 2 goes, its vote to 1: just half; 3 goes.
        vote(RUN, 1, "person a hour 1 worth 9;person b hour 2 worth 9 hour 1 worth 8;person c hour 3 worth 9;person d hour 4 worth 9 hour 3 worth 8;");
        Due.promise(20, "RUN: without a wish all are for stroke 1");
        vote(RUN, 1, "person a;person b;");
    }

    private static void mostAtLeast() {
        Due.promise(20, "MOST at least: the one whose least worth to any is the greatest");
        vote(MOST, 8, "person a hour 7 worth 99 hour 8 worth 2;person b hour 7 worth 1 hour 8 worth 2;");
        vote(MOST, 7, "person a hour 7 worth 99 hour 8 worth 2;person b hour 7 worth 3 hour 8 worth 2;");
        Due.promise(20, "MOST at least: to any, the last too");
        vote(MOST, 1, "person a hour 7 worth 99;person b hour 7 worth 99;person c;");
        vote(MOST, 1, "person c;person a hour 7 worth 99;person b hour 7 worth 99;");
        Due.promise(20, "MOST at least: of equal ones the least stroke is chosen");
        vote(MOST, 7, "person a hour 8 worth 9 hour 7 worth 9;person b hour 8 worth 9 hour 7 worth 9;");
    }

    private static void everyStroke() {
        Due.promise(20, "VOTES for a stroke (1 to 24)");
        for (int stroke = 1; stroke <= 24; stroke++) {
            for (int way = 0; way <= 5; way++) {
                vote(way, stroke, "person a hour " + stroke + " worth 99;person b hour " + stroke + " worth 1;");
            }
        }
    }

    private static void nobodyMinds() {
        Due.promise(20, "Of equal ones the least stroke is chosen, all being equal");
        for (int way = 0; way <= 5; way++) {
            vote(way, way == PAIRS ? -1 : 1, "person a;person b;person c;");
        }
    }

    private static void prefers() {
        HourAgain x = Due.of("person a hour 1 worth 2 hour 24 worth 1;person b hour 1 worth 1 hour 24 worth 1;person c hour 24 worth 99;");
        Due.promise(21, "PERSONS to whom one stroke is worth more than another one");
        Due.due("prefers(1, 24)", x.prefers(1, 24), 1);
        Due.due("prefers(24, 1)", x.prefers(24, 1), 1);
        Due.due("prefers(1, 2)", x.prefers(1, 2), 2);
        Due.due("prefers(24, 2)", x.prefers(24, 2), 3);
        Due.due("prefers(2, 1)", x.prefers(2, 1), 0);
        Due.promise(21, "the same stroke is worth no more to any");
        Due.due("prefers(1, 1)", x.prefers(1, 1), 0);
        Due.due("prefers(24, 24)", x.prefers(24, 24), 0);
        Due.promise(21, "without PERSONS: 0");
        Due.due("prefers(1, 2)", new HourAgain().prefers(1, 2), 0);
        Due.due("prefers(24, 1)", Due.of("town a;").prefers(24, 1), 0);
    }

    private static void prefersRange() {
        HourAgain[] some = {new HourAgain(), Due.of("person a hour 1 worth 2;")};
        int[] strokes = {-1, 0, 25, 26, MIN, MAX};
        Due.promise(21, "NONE: others");
        for (HourAgain x : some) {
            for (int stroke : strokes) {
                Due.dueNone("prefers(" + stroke + ", 1)", x.prefers(stroke, 1));
                Due.dueNone("prefers(1, " + stroke + ")", x.prefers(1, stroke));
                Due.dueNone("prefers(24, " + stroke + ")", x.prefers(24, stroke));
                Due.dueNone("prefers(" + stroke + ", " + stroke + ")", x.prefers(stroke, stroke));
            }
        }
    }

    private static void nine() {
        StringBuilder text = new StringBuilder();
        for (int i = 0; i < 9; i++) {
            text.append("person ").append((char) ('k' + i)).append(" hour 24 worth 99 hour 1 worth ").append(i).append(';');
        }
        HourAgain x = Due.of(text.toString());
        Due.promise(19, "all 9 PERSONS told");
        for (int person = 0; person < 9; person++) {
            Due.due("wish(" + person + ", 24)", x.wish(person, 24), 99);
            Due.due("wish(" + person + ", 1)", x.wish(person, 1), person);
        }
        Due.dueNone("wish(9, 1)", x.wish(9, 1));
        Due.promise(20, "all 9 PERSONS told");
        for (int way = 0; way <= 5; way++) {
            Due.due("vote(" + way + ")", x.vote(way), 24);
        }
        Due.promise(21, "all 9 PERSONS told");
        Due.due("prefers(24, 1)", x.prefers(24, 1), 9);
        Due.due("prefers(1, 2)", x.prefers(1, 2), 8);
    }

    private static void askedBehindAnother() {
        Due.promise(20, "by a way: whatever other way was asked ahead of it");
        String text = "person a hour 5 worth 90 hour 20 worth 2;person b hour 6 worth 90 hour 20 worth 3;person c hour 6 worth 1 hour 2 worth 1;";
        for (int way = 0; way <= 5; way++) {
            int want = Due.of(text).vote(way);
            HourAgain x = Due.of(text);
            for (int other = 0; other <= 5; other++) {
                x.vote(other);
                Due.due("vote(" + way + ") behind " + other, x.vote(way), want);
            }
        }
        Due.promise(20, "by a way: unlike ones choose unlike strokes");
        String unlike = "person a hour 5 worth 90;person b hour 6 worth 2 hour 11 worth 1;person c hour 6 worth 2 hour 11 worth 1;"
            + "person d hour 12 worth 3 hour 11 worth 1;";
        int[] want = {6, 5, 11, 6, 5, 1};
        HourAgain y = Due.of(unlike);
        for (int way = 0; way <= 5; way++) {
            for (int other = 0; other <= 5; other++) {
                Due.due("vote(" + other + ")", y.vote(other), want[other]);
                Due.due("vote(" + way + ")", y.vote(way), want[way]);
            }
        }
    }

    private static void firstAndLast() {
        Due.promise(20, "strokes 1 to 24: the first counts as any other");
        for (int way = 0; way <= 5; way++) {
            vote(way, 1, "person a hour 1 worth 5 hour 2 worth 4 hour 24 worth 4;person b hour 1 worth 5 hour 2 worth 4 hour 24 worth 4;");
            vote(way, 2, "person a hour 1 worth 4 hour 2 worth 5 hour 24 worth 4;person b hour 1 worth 4 hour 2 worth 5 hour 24 worth 4;");
        }
        Due.promise(20, "strokes 1 to 24: the last counts as any other");
        for (int way = 0; way <= 5; way++) {
            vote(way, 24, "person a hour 24 worth 5 hour 1 worth 4 hour 23 worth 4;person b hour 24 worth 5 hour 1 worth 4 hour 23 worth 4;");
        }
        Due.promise(20, "PLACES: strokes that are worth less, the first and the last of them too");
        // 3 has 23 points, 1 and 4 have 22 each.
        vote(PLACES, 3, "person a hour 4 worth 1 hour 1 worth 1;person b hour 3 worth 1;");
        // 5 has 23 points, 4 and 24 have 22 each.
        vote(PLACES, 5, "person a hour 4 worth 1 hour 24 worth 1;person b hour 5 worth 1;");
    }

    private static void vote(int way, int want, String text) {
        Due.due("vote(" + way + ") of " + text, Due.of(text).vote(way), want);
    }
}
