import java.util.NoSuchElementException;
import java.util.TreeSet;

/** What the tests share: feeding a text, comparing answers, and the exit code. */
final class Due {
    private static int wrong = 0;
    private static int asked = 0;
    private static final TreeSet<String> SENTENCES = new TreeSet<>();
    private static String sentence = "";

    interface Call {
        int answer();
    }

    private Due() {
    }

    /** The sentence of the document that is asked from here on; an answer that is not as due names it. */
    static void promise(int number, String words) {
        sentence = "promise " + number + ", '" + words + "': ";
        SENTENCES.add(sentence);
    }

    static void due(String call, long got, long want) {
        asked++;
        if (got != want) {
            tell(call + " answered " + got + ", due is " + want);
        }
    }

    static void due(String call, boolean got, boolean want) {
        due(call, got ? 1 : 0, want ? 1 : 0);
    }

    static void dueNone(String call, long got) {
        due(call, got, -1);
    }

    static void dueThrow(String call, Call c) {
        asked++;
        try {
            tell(call + " answered " + c.answer() + ", due is NoSuchElementException");
        } catch (NoSuchElementException e) {
            // as due
        } catch (RuntimeException e) {
            tell(call + " threw " + e + ", due is NoSuchElementException");
        }
    }

    private static void tell(String what) {
        wrong++;
        System.out.println(sentence + what);
    }

    /** Lays the text on the TAPE, 24 signs a call (a 0 byte is left out by feed). */
    static int lay(HourAgain x, String text) {
        int length = x.feed(0, 0, 0);
        for (int i = 0; i < text.length(); i += 24) {
            length = x.feed(eight(text, i), eight(text, i + 8), eight(text, i + 16));
        }
        return length;
    }

    private static long eight(String text, int from) {
        long bytes = 0;
        for (int i = from; i < from + 8; i++) {
            bytes = bytes << 8 | (i < text.length() ? text.charAt(i) : 0);
        }
        return bytes;
    }

    static int read(HourAgain x, String text) {
        lay(x, text);
        return x.book();
    }

    /** A new object that has read the text, which has to be without a FAULT. */
    static HourAgain of(String text) {
        HourAgain x = new HourAgain();
        due("book() of " + text, read(x, text), 0);
        return x;
    }

    /** Reads a text with a FAULT of this kind at this place on an object of its own. */
    static void fault(String text, int kind, int place) {
        HourAgain x = new HourAgain();
        due("book() of " + text, read(x, text), kind + 16 * place);
    }

    /** Reads a text with a FAULT of this kind at the token behind the sign @, which is no part of it. */
    static void fault(int kind, String marked) {
        int place = marked.indexOf('@');
        fault(marked.substring(0, place) + marked.substring(place + 1), kind, place);
    }

    static void end(String test) {
        String told = SENTENCES.isEmpty() ? "" : " to " + SENTENCES.size() + " sentences";
        System.out.println(test + ": " + asked + " answers" + told + ", " + wrong + " not as due");
        if (wrong != 0) {
            System.exit(1);
        }
    }
}
