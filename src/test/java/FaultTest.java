import java.util.ArrayList;
import java.util.List;
import java.util.Random;

/** Promise 3 on texts made at random (always the same ones) and spoilt, against the PlainReader. */
public final class FaultTest {
    private static final String[] PIECES = {"town", "back", "at", "way", "work", "day", "from", "to", "long", "worth", "person",
        "hour", "paper", "in", "first", "second", "after", "within", ";", ";", "0", "1", "24", "25", "99", "100", "999", "1000",
        "1439", "1440", "1441", "3649", "3650", "9999", "10000", "00001", "0001", "a", "b", "c", "ka", "pa", "qa", "qb", "zz",
        "abcdefgh", "abcdefghi", "A", "+", "_", "~", "a1", "1a", "town1", ",", "back 5 at 5 ;", "town x ;", "work y day 1",
        "person z ;", "way a b 5 ;", "way b a 5 ;", "after qa qb 5 ;", "within qb qa 5 ;", "hour 5 worth 5"};

    public static void main(String[] args) {
        Random random = new Random(512);
        int[] kinds = new int[6];
        for (int i = 0; i < 6000; i++) {
            String text = i % 5 == 0 ? crowd(random) : new Tale(random, 1 + random.nextInt(12)).text.toString();
            text = spoil(text, random);
            if (text.length() > 1000) {
                text = text.substring(0, 1000);
            }
            HourAgain x = new HourAgain();
            int want = PlainReader.faultOf(text);
            Due.due("book() of " + text, Due.read(x, text), want);
            kinds[want % 16]++;
            Due.due("TOWNS told of " + text, want == 0 || x.count(0) == 0, true);
        }
        for (int kind = 0; kind < 6; kind++) {
            Due.due("kind " + kind + " is seen often enough: " + kinds[kind], kinds[kind] > 50, true);
        }
        Due.end("FaultTest");
    }

    /** One more of a kind than there may be, now and then. */
    private static String crowd(Random random) {
        StringBuilder text = new StringBuilder("town a ;town b ;paper qa in a day 1 at 1 ;paper qb in a day 1 at 1 ;");
        int kind = random.nextInt(6);
        int most = new int[] {2, 12, 8, 9, 11, 16}[kind] + random.nextInt(2);
        for (int i = 0; i < most; i++) {
            char c = (char) ('c' + i);
            switch (kind) {
                case 0:
                    text.append("town ").append(c).append(';');
                    break;
                case 1:
                    text.append("back ").append(i).append(" at 5;");
                    break;
                case 2:
                    text.append("work ").append(c).append(" day 1 from 0 to 1 long 1 worth 1;");
                    break;
                case 3:
                    text.append("person ").append(c).append(" hour 1 worth 1;");
                    break;
                case 4:
                    text.append("paper ").append(c).append(" in b day 1 at 1;");
                    break;
                default:
                    text.append(random.nextBoolean() ? "after" : "within").append(" qa qb 1;");
            }
        }
        return text.toString();
    }

    private static String spoil(String text, Random random) {
        List<String> parts = new ArrayList<>(List.of(text.replace(";", " ; ").trim().split(" +")));
        int times = random.nextInt(3);
        for (int i = 0; i < times; i++) {
            int at = random.nextInt(parts.size());
            String piece = random.nextInt(3) == 0 ? parts.get(random.nextInt(parts.size())) : PIECES[random.nextInt(PIECES.length)];
            switch (random.nextInt(6)) {
                case 0:
                    parts.set(at, piece);
                    break;
                case 1:
                    parts.add(at, piece);
                    break;
                case 2:
                    if (parts.size() > 1) {
                        parts.remove(at);
                    }
                    break;
                case 3:
                    replaceAlike(parts, at, random);
                    break;
                default:
                    tellAgain(parts, random);
            }
        }
        StringBuilder all = new StringBuilder();
        for (int i = 0; i < parts.size(); i++) {
            String part = parts.get(i);
            boolean joint = i > 0 && Character.isLetter(all.charAt(all.length() - 1)) && Character.isLetter(part.charAt(0))
                || i > 0 && Character.isDigit(all.charAt(all.length() - 1)) && Character.isDigit(part.charAt(0));
            String blanks = new String[] {"", " ", "\n", " \n  "}[random.nextInt(8) < 5 ? random.nextInt(2) : random.nextInt(4)];
            all.append(joint && blanks.isEmpty() ? " " : blanks).append(part);
        }
        return all.append(random.nextInt(4) == 0 ? "  " : "").toString();
    }

    /** A sentence, or a wish, that is there comes once more at a place where one may begin. */
    private static void tellAgain(List<String> parts, Random random) {
        String mark = random.nextInt(4) == 0 ? "hour" : ";";
        List<Integer> begins = new ArrayList<>();
        for (int i = 0; i < parts.size(); i++) {
            if (mark.equals("hour") ? parts.get(i).equals("hour") : i == 0 || parts.get(i - 1).equals(";")) {
                begins.add(i);
            }
        }
        if (begins.isEmpty()) {
            return;
        }
        int from = begins.get(random.nextInt(begins.size()));
        int to = from;
        while (to < parts.size() && (mark.equals("hour") ? to < from + 4 : to == from || !parts.get(to - 1).equals(";"))) {
            to++;
        }
        List<String> copy = new ArrayList<>(parts.subList(from, to));
        parts.addAll(random.nextInt(3) > 0 ? to : begins.get(random.nextInt(begins.size())), copy);
    }

    /** Another NUMBER for a NUMBER, another WORD for a WORD. */
    private static void replaceAlike(List<String> parts, int at, Random random) {
        for (int i = 0; i < 40; i++) {
            String piece = PIECES[random.nextInt(PIECES.length)];
            if (Character.isDigit(piece.charAt(0)) == Character.isDigit(parts.get(at).charAt(0))
                && Character.isLetter(piece.charAt(0)) == Character.isLetter(parts.get(at).charAt(0))) {
                parts.set(at, piece);
                return;
            }
        }
    }
}
