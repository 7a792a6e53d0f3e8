import java.util.NoSuchElementException;
import java.util.Random;

/** Any calls with any arguments in any state: nothing is thrown but where the document says so, and no room is taken. */
public final class AnyCallTest {
    private static final int[] EDGES = {Integer.MIN_VALUE, -1000000, -2, -1, 0, 1, 2, 3, 4, 5, 7, 8, 9, 11, 12, 23, 24, 25, 31, 32,
        63, 64, 1439, 1440, 3649, 3650, 4095, 4096, 9999, 10000, 9999999, 10000000, Integer.MAX_VALUE - 1, Integer.MAX_VALUE};

    public static void main(String[] args) {
        Random random = new Random(29);
        for (int i = 0; i < 400; i++) {
            HourAgain x = new HourAgain();
            for (int k = 0; k < 500; k++) {
                int which = random.nextInt(40);
                if (which >= 28 && which < 30) {
                    Due.lay(x, new Tale(random, 1 + random.nextInt(16)).text.toString());
                    x.book();
                } else {
                    call(x, random, which);
                }
            }
        }
        room();
        Due.end("AnyCallTest");
    }

    private static int any(Random random) {
        int kind = random.nextInt(3);
        return kind == 0 ? EDGES[random.nextInt(EDGES.length)] : kind == 1 ? random.nextInt(9) : random.nextInt(2000) - 5;
    }

    private static void call(HourAgain x, Random random, int which) {
        int[] a = new int[7];
        for (int i = 0; i < a.length; i++) {
            a[i] = any(random);
        }
        boolean mayThrow = which == 2 || which == 4 || which == 5 || which == 23 || which == 24;
        boolean thrown = false;
        try {
            answer(x, which, a, random.nextLong());
        } catch (NoSuchElementException e) {
            thrown = true;
        } catch (RuntimeException e) {
            Due.due("call " + which + " throws " + e, 1, 0);
        }
        Due.due("call " + which + " throws", thrown && !mayThrow, false);
    }

    private static void answer(HourAgain x, int which, int[] a, long bytes) {
        switch (which) {
            case 0: x.feed(bytes, bytes * 31, a[0]); break;
            case 1: x.book(); break;
            case 2: x.shown(a[0], a[1]); break;
            case 3: x.moment(a[0], a[1], a[2], a[3]); break;
            case 4: x.backs(a[0], a[1]); break;
            case 5: x.between(a[0], a[1], a[2], a[3], a[4], a[5]); break;
            case 6: x.paper(a[0], a[1]); break;
            case 7: x.worlds(); break;
            case 8: x.world(a[0], a[1]); break;
            case 9: x.sure(a[0]); break;
            case 10: x.before(a[0], a[1]); break;
            case 11: x.together(); break;
            case 12: x.open(); break;
            case 13: x.work(a[0], a[1]); break;
            case 14: x.best(a[0], a[1]); break;
            case 15: x.order(a[0], a[1]); break;
            case 16: x.begins(a[0], a[1]); break;
            case 17: x.wish(a[0], a[1]); break;
            case 18: x.vote(a[0]); break;
            case 19: x.prefers(a[0], a[1]); break;
            case 20: x.most(a[0], a[1]); break;
            case 21: x.goes(a[0], a[1], a[2], a[3]); break;
            case 22: x.way(a[0], a[1]); break;
            case 23: x.wage(a[0], a[1], a[2], a[3], a[4], a[5], a[6]); break;
            case 24: x.deed(a[0], a[1], a[2], a[3]); break;
            case 25: x.none(a[0], a[1], a[2]); break;
            case 26: x.mark(a[0], a[1] > 3); break;
            default: x.count(a[0]);
        }
    }

    /** All rows are made in the constructor: a dear BOOK, read and asked again and again, makes no object. */
    private static void room() {
        if (!(java.lang.management.ManagementFactory.getThreadMXBean() instanceof com.sun.management.ThreadMXBean)) {
            return;
        }
        com.sun.management.ThreadMXBean threads =
            (com.sun.management.ThreadMXBean) java.lang.management.ManagementFactory.getThreadMXBean();
        StringBuilder text = new StringBuilder("town tt; back 1 at 2; town uu;");
        for (char c = 'a'; c < 'm'; c++) {
            text.append("paper ").append(c).append(" in tt day 1 at ").append(60 + c - 'a').append(';');
        }
        HourAgain x = new HourAgain();
        int[] ones = {0, 1, 1, 1, 1, 1, 1};
        long id = Thread.currentThread().getId();
        Due.read(x, text.toString());
        long before = threads.getThreadAllocatedBytes(id);
        for (int k = 0; k < 400; k++) {
            answer(x, 2 + k % 26, ones, 0);
        }
        long taken = threads.getThreadAllocatedBytes(id) - before;
        Due.due("bytes taken by 400 calls: " + taken, taken < 20000, true);
    }
}
