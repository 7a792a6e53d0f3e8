import java.io.IOException;
import java.lang.reflect.InvocationTargetException;
import java.lang.reflect.Method;
import java.nio.file.Files;
import java.nio.file.Path;
import java.util.NoSuchElementException;
import java.util.TreeSet;
import java.util.regex.Matcher;
import java.util.regex.Pattern;

/** Each call in README.md answers what is written behind it there. */
public final class ReadmeTest {
    private static final Pattern CALL =
        Pattern.compile("x\\.(\\w+)\\((.*)\\);\\s*// (-?\\d+|true|false|NoSuchElementException)\\b.*");
    private static final Pattern LAY = Pattern.compile("lay\\(x, \"(.*)\"\\);");

    public static void main(String[] args) throws IOException {
        HourAgain x = null;
        boolean java = false;
        TreeSet<String> called = new TreeSet<>();
        for (String line : Files.readAllLines(Path.of(System.getProperty("root", "."), "README.md"))) {
            Matcher call = CALL.matcher(line);
            Matcher lay = LAY.matcher(line);
            if (line.startsWith("```")) {
                java = line.equals("```java");
            } else if (java && line.equals("HourAgain x = new HourAgain();")) {
                x = new HourAgain();
            } else if (java && lay.matches()) {
                Due.lay(x, lay.group(1));
            } else if (java && call.matches()) {
                called.add(call.group(1));
                String got = answer(x, call.group(1), call.group(2));
                Due.due(line + " got " + got + ", as written", got.equals(call.group(3)), true);
            } else {
                Due.due("a line of code that is read: " + line, java && !line.startsWith("// "), false);
            }
        }
        Due.due("calls that README.md shows: " + called, called.size() > 20, true);
        Due.end("ReadmeTest");
    }

    private static String answer(HourAgain x, String name, String arguments) {
        for (Method m : HourAgain.class.getDeclaredMethods()) {
            if (m.getName().equals(name)) {
                try {
                    return m.invoke(x, values(m.getParameterTypes(), arguments)).toString();
                } catch (InvocationTargetException e) {
                    return e.getCause() instanceof NoSuchElementException ? "NoSuchElementException" : e.getCause().toString();
                } catch (IllegalAccessException e) {
                    return e.toString();
                }
            }
        }
        return "no such call";
    }

    private static Object[] values(Class<?>[] types, String arguments) {
        String[] told = arguments.isEmpty() ? new String[0] : arguments.split(", ");
        Object[] values = new Object[types.length];
        for (int i = 0; i < types.length; i++) {
            if (types[i] == boolean.class) {
                values[i] = Boolean.valueOf(told[i]);
            } else if (types[i] == long.class) {
                values[i] = Long.decode(told[i].replace("L", ""));
            } else {
                values[i] = Integer.decode(told[i]);
            }
        }
        return values;
    }
}
