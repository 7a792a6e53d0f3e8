import java.util.ArrayList;
import java.util.HashMap;
import java.util.HashSet;
import java.util.List;
import java.util.Map;
import java.util.Set;
import java.util.regex.Matcher;
import java.util.regex.Pattern;

/** Finds the FAULT of a text by patterns of sentences, apart from how the class does it. */
final class PlainReader {
    private static final Pattern TOKEN = Pattern.compile("[a-z]+|[0-9]+|[^ \n]");
    private static final List<String> KEYWORDS = List.of("town", "back", "at", "way", "work", "day", "from", "to", "long",
        "worth", "person", "hour", "paper", "in", "first", "second", "after", "within");
    /** A word with an upper first letter is a slot; what stands in brackets may be left out or told again. */
    private static final Map<String, String> SENTENCES = Map.of(
        "town", "town New ;", "back", "back Told at Stroke ;", "way", "way Town Town2 Far ;",
        "work", "work New day Day from From to To long Long worth Worth ;",
        "person", "person New * ;", "paper", "paper New in Town day Day at At ? ;",
        "after", "after Paper Paper2 Far0 ;", "within", "within Paper Paper2 Far0 ;");

    private final List<String> tokens = new ArrayList<>();
    private final List<Integer> places = new ArrayList<>();
    private final Map<String, String> names = new HashMap<>();
    private final Map<String, Integer> many = new HashMap<>();
    private final Set<String> told = new HashSet<>();
    private int at = 0;
    private String first = "";
    private int from = 0;

    static int faultOf(String text) {
        return new PlainReader(text).read();
    }

    private PlainReader(String text) {
        Matcher m = TOKEN.matcher(text);
        while (m.find()) {
            tokens.add(m.group());
            places.add(m.start());
        }
        tokens.add("");
        places.add(text.length());
    }

    private int read() {
        while (at < tokens.size() - 1) {
            String head = tokens.get(at);
            if (!SENTENCES.containsKey(head) || head.equals("back") && count("town") == 0) {
                return fault(1);
            }
            if (oneTooMany(head)) {
                return fault(5);
            }
            int kind = sentence(head);
            if (kind != 0) {
                return fault(kind);
            }
            many.merge(head.equals("within") ? "after" : head, 1, Integer::sum);
            if (head.equals("town")) {
                many.put("back", 0);
                told.removeIf(t -> t.startsWith("back"));
            }
        }
        return 0;
    }

    private int fault(int kind) {
        return kind + 16 * places.get(at);
    }

    private int count(String head) {
        return many.getOrDefault(head, 0);
    }

    private boolean oneTooMany(String head) {
        Map<String, Integer> most = Map.of("town", 3, "back", 12, "work", 8, "person", 9, "paper", 12, "after", 16, "within", 16);
        return most.containsKey(head) && count(head.equals("within") ? "after" : head) >= most.get(head);
    }

    private int sentence(String head) {
        for (String part : SENTENCES.get(head).split(" ")) {
            if (part.equals("*")) {
                int kind = wishes();
                if (kind != 0) {
                    return kind;
                }
            } else if (part.equals("?")) {
                at += tokens.get(at).equals("first") || tokens.get(at).equals("second") ? 1 : 0;
            } else {
                int kind = part(part, head);
                if (kind != 0) {
                    return kind;
                }
                at++;
            }
        }
        return 0;
    }

    private int wishes() {
        told.removeIf(t -> t.startsWith("hour"));
        while (tokens.get(at).equals("hour")) {
            for (String part : new String[] {"hour", "Wished", "worth", "Liked"}) {
                int kind = part(part, "person");
                if (kind != 0) {
                    return kind;
                }
                at++;
            }
        }
        return 0;
    }

    private int part(String part, String head) {
        String token = tokens.get(at);
        if (!Character.isUpperCase(part.charAt(0))) {
            return token.equals(part) ? 0 : 1;
        }
        switch (part) {
            case "New":
                return !isName(token) ? 1 : names.putIfAbsent(token, head) == null ? 0 : 3;
            case "Town":
            case "Paper":
                first = token;
                return !isName(token) ? 1 : part.toLowerCase().equals(names.get(token)) ? 0 : 2;
            case "Town2":
            case "Paper2":
                return second(token, part.equals("Town2") ? "town" : "paper");
            default:
                return number(part, token);
        }
    }

    private int second(String token, String kind) {
        if (!isName(token)) {
            return 1;
        }
        if (!kind.equals(names.get(token))) {
            return 2;
        }
        if (token.equals(first)) {
            return 3;
        }
        if (kind.equals("town") && !told.add("way" + (token.compareTo(first) < 0 ? token + "-" + first : first + "-" + token))) {
            return 3;
        }
        return 0;
    }

    private int number(String part, String token) {
        if (!token.matches("[0-9]{1,4}")) {
            return 1;
        }
        int n = Integer.parseInt(token);
        Map<String, int[]> ranges = Map.of("Told", new int[] {0, 3649}, "Day", new int[] {0, 3649}, "Stroke", new int[] {1, 24},
            "Far", new int[] {1, 9999}, "From", new int[] {0, 1440}, "To", new int[] {from + 1, 1440},
            "Long", new int[] {1, 1440}, "Worth", new int[] {0, 999}, "At", new int[] {0, 1439});
        Map<String, int[]> more = Map.of("Far0", new int[] {0, 9999}, "Wished", new int[] {1, 24}, "Liked", new int[] {0, 99});
        int[] range = ranges.containsKey(part) ? ranges.get(part) : more.get(part);
        from = part.equals("From") ? n : from;
        if (part.equals("Told") && !told.add("back" + n) || part.equals("Wished") && !told.add("hour" + n)) {
            return n >= range[0] && n <= range[1] ? 3 : 4;
        }
        return n >= range[0] && n <= range[1] ? 0 : 4;
    }

    private static boolean isName(String token) {
        return token.matches("[a-z]{1,8}") && !KEYWORDS.contains(token);
    }
}
