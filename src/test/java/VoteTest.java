/** Promises 19 to 21: wish, vote, prefers. */
public final class VoteTest {
    public static void main(String[] args) {
        wishes();
        apart();
        pairs();
        run();
        ties();
        askedFirst();
        Due.end("VoteTest");
    }

    private static void wishes() {
        HourAgain x = Due.of("person a hour 1 worth 99 hour 24 worth 7 hour 5 worth 0; person b hour 5 worth 1;");
        int[][] want = {{0, 1, 99}, {0, 24, 7}, {0, 5, 0}, {0, 2, 0}, {1, 5, 1}, {1, 1, 0}, {1, 24, 0},
            {0, 0, -1}, {0, 25, -1}, {-1, 1, -1}, {2, 1, -1}, {0, Integer.MIN_VALUE, -1}, {Integer.MAX_VALUE, 1, -1}};
        for (int[] w : want) {
            Due.due("wish(" + w[0] + ", " + w[1] + ")", x.wish(w[0], w[1]), w[2]);
        }
        int[][] prefers = {{1, 5, 1}, {5, 1, 1}, {24, 1, 0}, {1, 24, 1}, {5, 2, 1}, {2, 2, 0}, {0, 1, -1}, {1, 0, -1},
            {25, 1, -1}, {1, 25, -1}, {Integer.MIN_VALUE, 1, -1}};
        for (int[] p : prefers) {
            Due.due("prefers(" + p[0] + ", " + p[1] + ")", x.prefers(p[0], p[1]), p[2]);
        }
        Due.due("vote(-1)", x.vote(-1), -1);
        Due.due("vote(6)", x.vote(6), -1);
        Due.due("no PERSONS", Due.of("town a;").vote(0), -1);
    }

    /** BOOKS on which the ways choose unlike strokes. */
    private static void apart() {
        HourAgain x = Due.of("person a hour 2 worth 9 hour 3 worth 4; person b hour 3 worth 5;"
            + "person c hour 3 worth 1 hour 4 worth 3;");
        votes(x, 2, 3, 3, 3, 3, 3);
        HourAgain y = Due.of("person a hour 7 worth 50 hour 8 worth 40 hour 9 worth 2;"
            + "person b hour 7 worth 50 hour 8 worth 40 hour 9 worth 2; person c hour 8 worth 1 hour 9 worth 99;"
            + "person d hour 9 worth 99 hour 10 worth 1; person e hour 10 worth 3 hour 8 worth 2 hour 9 worth 1;");
        // PLAIN: 7, 7, 9, 9, 10. SUM: 7 100, 8 83, 9 203. PAIRS: 8 beats 9, but not 7. RUN: 10 goes, then 9 has 3.
        votes(y, 7, 9, 9, -1, 9, 9);
        HourAgain z = Due.of("person a hour 5 worth 90; person b hour 6 worth 2 hour 11 worth 1; person c hour 6 worth 2 hour 11 worth 1;"
            + "person d hour 12 worth 3 hour 11 worth 1;");
        // SUM: 5 90. PLACES: 5 23, 6 46, 11 66, 12 23. PAIRS: 6 beats all. RUN: 12 goes to 5,
        // the least left of which d has none worth anything, then 6 goes.
        votes(z, 6, 5, 11, 6, 5, 1);
        HourAgain least = Due.of("person a hour 5 worth 90 hour 20 worth 2; person b hour 6 worth 90 hour 20 worth 3;");
        votes(least, 5, 5, 20, -1, 5, 20);
    }

    private static void pairs() {
        HourAgain circle = Due.of("person a hour 1 worth 3 hour 2 worth 2 hour 3 worth 1;"
            + "person b hour 2 worth 3 hour 3 worth 2 hour 1 worth 1; person c hour 3 worth 3 hour 1 worth 2 hour 2 worth 1;");
        Due.due("a circle", circle.vote(3), -1);
        Due.due("prefers(1, 2)", circle.prefers(1, 2), 2);
        Due.due("prefers(2, 1)", circle.prefers(2, 1), 1);
        Due.due("nobody minds", Due.of("person a;").vote(3), -1);
        Due.due("one who minds", Due.of("person a; person b hour 24 worth 1;").vote(3), 24);
        Due.due("one against one", Due.of("person a hour 3 worth 1; person b hour 4 worth 1;").vote(3), -1);
        Due.due("more against it than for it", Due.of("person a hour 3 worth 9; person b hour 4 worth 1 hour 3 worth 1;").vote(3), 3);
    }

    private static void run() {
        // Of 5 votes 3 are more than half, of 4 votes 2 are not.
        Due.due("more than half at once", Due.of("person a hour 9 worth 1; person b hour 9 worth 1; person c hour 9 worth 1;"
            + "person d hour 2 worth 1; person e hour 2 worth 1;").vote(4), 9);
        Due.due("just half", Due.of("person a hour 9 worth 5 hour 2 worth 1; person b hour 9 worth 5 hour 2 worth 1;"
            + "person c hour 2 worth 5 hour 9 worth 1; person d hour 4 worth 5 hour 2 worth 1;").vote(4), 2);
        Due.due("the greatest goes", Due.of("person a hour 9 worth 5; person b hour 2 worth 5;").vote(4), 2);
        Due.due("a vote goes to the least that is left", Due.of("person a hour 24 worth 1; person b hour 23 worth 1;"
            + "person c hour 5 worth 1;").vote(4), 5);
        Due.due("none wished", Due.of("person a; person b;").vote(4), 1);
        // 1 has no votes and is struck out, so a's next is the least one left.
        Due.due("1 struck out", Due.of("person a hour 8 worth 1; person b hour 8 worth 1; person c hour 3 worth 1;"
            + "person d hour 3 worth 1; person e hour 20 worth 1;").vote(4), 3);
    }

    private static void ties() {
        votes(Due.of("person a;"), 1, 1, 1, -1, 1, 1);
        votes(Due.of("person a hour 7 worth 2 hour 6 worth 2;"), 6, 6, 6, -1, 6, 6);
        votes(Due.of("person a hour 24 worth 1;"), 24, 24, 24, 24, 24, 24);
        votes(Due.of("person a hour 8 worth 1; person b hour 4 worth 1;"), 4, 4, 4, -1, 4, 1);
        StringBuilder nine = new StringBuilder();
        for (int i = 0; i < 9; i++) {
            nine.append("person ").append((char) ('k' + i)).append(" hour ").append(24 - i).append(" worth ").append(90 + i).append(';');
        }
        votes(Due.of(nine.toString()), 16, 16, 16, -1, 16, 1);
    }

    /** Each way asked first of all, and behind all others. */
    private static void askedFirst() {
        for (int way = 0; way < 6; way++) {
            Due.due("vote(" + way + ") first", Due.of("person a hour 24 worth 1;").vote(way), 24);
            HourAgain x = Due.of("person a hour 24 worth 9; person b hour 24 worth 9; person c hour 3 worth 1 hour 2 worth 1;");
            for (int other = 0; other < 6; other++) {
                x.vote(other);
                Due.due("vote(" + way + ") behind " + other, x.vote(way), way == 5 ? 1 : 24);
            }
        }
    }

    private static void votes(HourAgain x, int... want) {
        for (int way = 0; way < 6; way++) {
            Due.due("vote(" + way + ")", x.vote(way), want[way]);
        }
    }
}
