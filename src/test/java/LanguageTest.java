import java.io.IOException;
import java.lang.reflect.Method;
import java.lang.reflect.Modifier;
import java.nio.file.Files;
import java.nio.file.Path;
import java.util.ArrayList;
import java.util.List;
import java.util.Map;
import java.util.TreeMap;
import java.util.TreeSet;
import java.util.regex.Matcher;
import java.util.regex.Pattern;

/** What can be seen of the rules of LANGUAGE.md in the source; FaceTest looks at the face, classes and fields. */
public final class LanguageTest {
    private static final Pattern METHOD =
        Pattern.compile("\\n *((?:public |private |static |final )*)[\\w\\[\\]]+ (\\w+)\\(([^()]*)\\)( throws \\w+)? \\{");

    private static final String[] NOT_THERE = {
        "\\bpackage\\b", "->", "::", "\\bsynchronized\\b", "\\bassert\\b", "\\bfinally\\b", "\\btry\\b", "\\bcatch\\b",
        "\\bthread", "Exact\\(", "Random", "currentTimeMillis", "nanoTime", "\\bprotected\\b", "static \\{", "\\bnative\\b",
        "\\b(Thread|Runtime|File|Scanner|Map|Set|Stream|Object|Collections|Character|Double|Float|Boolean)\\b",
        "\\bthrow\\b(?! new NoSuchElementException\\(\\);)", "System\\.(?!arraycopy)", "while \\(true\\)", "for \\(;;\\)",
        "\\b(equals|hashCode|toString|getMessage)\\("};

    /** By name the names of what it calls; methods of one name count as one, so no way is missed. */
    private static final Map<String, TreeSet<String>> CALLS = new TreeMap<>();

    public static void main(String[] args) throws IOException {
        Path file = Path.of(System.getProperty("root", "."), "src", "main", "java", "HourAgain.java");
        String code = bare(Files.readString(file));
        for (String pattern : NOT_THERE) {
            Matcher found = Pattern.compile(pattern).matcher(code);
            Due.due("rules 4, 6, 9, 13: " + pattern + " is there", found.find(), false);
        }
        for (String line : code.split("\n")) {
            Due.due("rule 4: " + line, line.startsWith("import ")
                && !line.matches("import java\\.util\\.(ArrayList|List|Arrays|Iterator|NoSuchElementException);"), false);
            Due.due("rule 5: a static that is not final: " + line,
                line.matches(".*\\bstatic\\b.*[=;]\\s*") && !line.contains("final"), false);
        }
        List<String> bodies = methods(code);
        Due.due("methods seen: " + CALLS.size(), CALLS.size() > 90, true);
        tellCalls(bodies);
        for (String name : CALLS.keySet()) {
            int depth = depthOf(name, new ArrayList<>());
            Due.due("rule 11: calls from " + name + " go " + depth + " deep, which is at most eight", depth <= 8, true);
        }
        names();
        Due.end("LanguageTest");
    }

    /** The code without its comments and the texts in it. */
    private static String bare(String code) {
        return code.replaceAll("(?s)/\\*.*?\\*/", "").replaceAll("//[^\n]*", "").replaceAll("\"[^\"\n]*\"", "\"\"");
    }

    /** All methods, each as its name, a blank, and its body; their lengths and parameters are looked at. */
    private static List<String> methods(String code) {
        List<String> bodies = new ArrayList<>();
        Matcher method = METHOD.matcher(code);
        while (method.find()) {
            int end = method.end();
            for (int open = 1; open > 0; end++) {
                open += code.charAt(end) == '{' ? 1 : code.charAt(end) == '}' ? -1 : 0;
            }
            String body = code.substring(method.end(), end);
            String name = method.group(2);
            Due.due("rule 11: " + name + " has some sixty lines at most", body.split("\n").length <= 60, true);
            Due.due("rule 11: " + name + " takes seven at most", method.group(3).split(",").length <= 7, true);
            bodies.add(name + " " + body);
            CALLS.put(name, new TreeSet<>());
        }
        return bodies;
    }

    private static void tellCalls(List<String> bodies) {
        for (String body : bodies) {
            String name = body.substring(0, body.indexOf(' '));
            Matcher call = Pattern.compile("(\\w+)\\(").matcher(body);
            while (call.find()) {
                if (CALLS.containsKey(call.group(1))) {
                    CALLS.get(name).add(call.group(1));
                }
            }
        }
    }

    private static int depthOf(String name, List<String> above) {
        if (above.contains(name)) {
            Due.due("rule 8: " + name + " comes to itself by " + above, 1, 0);
            return 0;
        }
        above.add(name);
        int deepest = 0;
        for (String next : CALLS.get(name)) {
            deepest = Math.max(deepest, depthOf(next, above));
        }
        above.remove(name);
        return 1 + deepest;
    }

    private static void names() {
        TreeSet<String> open = new TreeSet<>();
        for (Method m : HourAgain.class.getDeclaredMethods()) {
            if (Modifier.isPublic(m.getModifiers())) {
                open.add(m.getName());
            }
        }
        for (Class<?> c : HourAgain.class.getDeclaredClasses()) {
            for (Method m : c.getDeclaredMethods()) {
                Due.due("rule 1: " + m + " bears a public name", open.contains(m.getName()), false);
            }
        }
    }
}
