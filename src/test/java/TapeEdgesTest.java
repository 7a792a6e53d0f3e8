/** Promises 1 to 3 and 29: the edges of the TAPE, each sentence by itself. */
public final class TapeEdgesTest {
    private static final long EIGHT_BLANKS = 0x2020202020202020L;

    public static void main(String[] args) {
        empty();
        signs();
        order();
        thousand();
        whatIsBeyond();
        howMany();
        taken();
        counted();
        Due.end("TapeEdgesTest");
    }

    private static String blanks(int many) {
        return " ".repeat(many);
    }

    private static void empty() {
        Due.promise(1, "An empty BOOK");
        HourAgain x = new HourAgain();
        for (int what = 0; what <= 6; what++) {
            Due.due("count(" + what + ")", x.count(what), 0);
        }
        Due.due("worlds()", x.worlds(), 1);
        Due.promise(1, "An empty BOOK, also behind another object's");
        Due.due("of another one", Due.of("town a;").count(0), 1);
        Due.due("count(0)", new HourAgain().count(0), 0);
    }

    private static void signs() {
        Due.promise(2, "others than 10 and 32 .. 126 are left out");
        for (int sign = 0; sign <= 255; sign++) {
            HourAgain x = new HourAgain();
            int fed = 0;
            for (int at = 0; at < 24; at++) {
                fed += sign == 10 || sign >= 32 && sign <= 126 ? 1 : 0;
                Due.due("the byte " + sign + " at " + at, feedOne(x, sign, at), fed);
            }
        }
        Due.promise(2, "others are left out: what stands round them stays, in its row");
        HourAgain x = new HourAgain();
        Due.due("feed", x.feed(0x00747f6f80771f6eL, 0x09200d6b000bff3bL, 0x3bL), 8);
        Due.due("book() of 'town k;;'", x.book(), 1 + 16 * 7);
    }

    /** The byte at one of the 24 places, all others being 0. */
    private static int feedOne(HourAgain x, int sign, int at) {
        long bytes = (long) sign << 56 - at % 8 * 8;
        return x.feed(at < 8 ? bytes : 0, at >= 8 && at < 16 ? bytes : 0, at >= 16 ? bytes : 0);
    }

    private static void order() {
        Due.promise(2, "the bytes of a, b, c, of each the highest first");
        for (int at = 0; at < 24; at++) {
            long[] bytes = {EIGHT_BLANKS, EIGHT_BLANKS, EIGHT_BLANKS};
            bytes[at / 8] ^= (long) (';' ^ ' ') << 56 - at % 8 * 8;
            HourAgain x = new HourAgain();
            Due.due("24 signs", x.feed(bytes[0], bytes[1], bytes[2]), 24);
            Due.due("the sign ; at " + at, x.book(), 1 + 16 * at);
        }
        Due.promise(2, "signs come behind the TAPE");
        HourAgain x = new HourAgain();
        Due.lay(x, "town");
        Due.lay(x, " kk");
        Due.due("feed", Due.lay(x, ";"), 8);
        Due.due("book()", x.book(), 0);
        Due.due("count(0)", x.count(0), 1);
    }

    private static void thousand() {
        Due.promise(2, "The TAPE has at most 1,000 signs");
        for (int on = 970; on <= 1000; on++) {
            HourAgain x = new HourAgain();
            Due.due(on + " signs", Due.lay(x, blanks(on)), on);
            Due.due(on + " signs and 24", x.feed(EIGHT_BLANKS, EIGHT_BLANKS, EIGHT_BLANKS), Math.min(1000, on + 24));
            Due.due("and 24 more", x.feed(EIGHT_BLANKS, EIGHT_BLANKS, EIGHT_BLANKS), Math.min(1000, on + 48));
        }
        Due.promise(2, "at most 1,000 signs: others take no place");
        HourAgain x = new HourAgain();
        Due.lay(x, blanks(999));
        Due.due("none that is a sign", x.feed(-1L, 0, 0x7f7f7f7f7f7f7f7fL), 999);
        Due.due("one at the end", x.feed(0, 0, 0x20L), 1000);
        Due.due("one more", x.feed(0, 0, 0x20L), 1000);
    }

    private static void whatIsBeyond() {
        Due.promise(2, "what is beyond 1,000 is left out");
        HourAgain x = new HourAgain();
        Due.due("the text's end is beyond", Due.lay(x, blanks(994) + "town k;"), 1000);
        Due.due("book()", x.book(), 1 + 16 * 1000);
        Due.due("the text's end is the last", Due.lay(x, blanks(993) + "town k;"), 1000);
        Due.due("book()", x.book(), 0);
        Due.due("count(0)", x.count(0), 1);
        Due.due("what is beyond is no FAULT", Due.lay(x, blanks(993) + "town k;;;;;;;;;;;;"), 1000);
        Due.due("book()", x.book(), 0);
        Due.promise(2, "what is beyond 1,000 does not come in its stead");
        Due.lay(x, blanks(1000));
        Due.lay(x, "town k;");
        Due.due("book()", x.book(), 0);
        Due.due("count(0)", x.count(0), 0);
    }

    private static void howMany() {
        Due.promise(2, "how many there are");
        HourAgain x = new HourAgain();
        Due.due("none", x.feed(0, 0, 0), 0);
        Due.due("one", x.feed(0, 0, 'a'), 1);
        Due.due("still one", x.feed(0, 0, 0), 1);
        Due.due("25", x.feed(0x6161616161616161L, 0x6161616161616161L, 0x6161616161616161L), 25);
    }

    private static void taken() {
        Due.promise(3, "what reads it takes it: it is empty then");
        HourAgain x = new HourAgain();
        Due.lay(x, "town a;");
        Due.due("book()", x.book(), 0);
        Due.due("count(6)", x.count(6), 0);
        Due.due("feed behind it", x.feed(0, 0, 0x2020L), 2);
        Due.due("book() of blanks", x.book(), 0);
        Due.due("count(0)", x.count(0), 0);
        Due.promise(3, "what reads it takes it, with a FAULT too");
        Due.lay(x, "town b; town b;");
        Due.due("book()", x.book(), 3 + 16 * 13);
        Due.due("count(6)", x.count(6), 0);
        Due.due("book() of nothing", x.book(), 0);
        Due.promise(3, "a full TAPE is empty then");
        Due.lay(x, blanks(1000));
        x.book();
        Due.due("count(6)", x.count(6), 0);
        Due.due("1,000 again", Due.lay(x, blanks(1001)), 1000);
        Due.promise(3, "no other call takes it");
        Due.lay(x, blanks(5));
        x.worlds();
        x.mark(0, false);
        x.mark(0, true);
        x.vote(0);
        Due.due("count(6)", x.count(6), 1000);
    }

    private static void counted() {
        Due.promise(29, "What 6: signs on the TAPE");
        int[] many = {0, 1, 23, 24, 25, 999, 1000};
        for (int n : many) {
            HourAgain x = new HourAgain();
            Due.lay(x, blanks(n));
            Due.due("count(6)", x.count(6), n);
        }
        HourAgain x = new HourAgain();
        Due.lay(x, blanks(1010));
        Due.due("count(6)", x.count(6), 1000);
    }
}
