import java.util.NoSuchElementException;

/** What the tests share: feeding a text, comparing answers, and the exit code. */
final class Due {
    private static int wrong = 0;
    private static int asked = 0;

    interface Call {
        int answer();
    }

    private Due() {
    }

    static void due(String call, long got, long want) {
        asked++;
        if (got != want) {
            wrong++;
            System.out.println(call + " answered " + got + ", due is " + want);
        }
    }

    static void due(String call, boolean got, boolean want) {
        due(call, got ? 1 : 0, want ? 1 : 0);
    }

    static void dueThrow(String call, Call c) {
        asked++;
        try {
            int got = c.answer();
            wrong++;
            System.out.println(call + " answered " + got + ", due is NoSuchElementException");
        } catch (NoSuchElementException e) {
            // as due
        }
    }

    /** Lays the text on the TAPE, 24 signs a call (a 0 byte is left out by feed). */
    static int lay(HourAgain x, String text) {
        int length = x.feed(0, 0, 0);
        for (int i = 0; i < text.length(); i += 24) {
            length = x.feed(eight(text, i), eight(text, i + 8), eight(text, i + 16));
        }
        return length;
    }

    private static long eight(String text, int from) {
        long bytes = 0;
        for (int i = from; i < from + 8; i++) {
            bytes = bytes << 8 | (i < text.length() ? text.charAt(i) : 0);
        }
        return bytes;
    }

    static int read(HourAgain x, String text) {
        lay(x, text);
        return x.book();
    }

    /** A new object that has read the text, which has to be without a FAULT. */
    static HourAgain of(String text) {
        HourAgain x = new HourAgain();
        due("book() of " + text, read(x, text), 0);
        return x;
    }

    /** Reads a text with a FAULT of this kind at this place on an object of its own. */
    static void fault(String text, int kind, int place) {
        HourAgain x = new HourAgain();
        due("book() of " + text, read(x, text), kind + 16 * place);
    }

    static void end(String test) {
        System.out.println(test + ": " + asked + " answers, " + wrong + " not as due");
        if (wrong != 0) {
            System.exit(1);
        }
    }
}
