import java.lang.reflect.Constructor;
import java.lang.reflect.Field;
import java.lang.reflect.Method;
import java.lang.reflect.Modifier;
import java.util.Arrays;
import java.util.TreeSet;

/** The public face is the document's, and nothing else of the class can be seen from outside. */
public final class FaceTest {
    private static final String[] FACE = {
        "int feed(long,long,long)", "int book()", "int shown(int,int) throws", "int moment(int,int,int,int)",
        "int backs(int,int) throws", "int between(int,int,int,int,int,int) throws", "int paper(int,int)", "int worlds()",
        "int world(int,int)", "int sure(int)", "int before(int,int)", "int together()", "int open()", "int work(int,int)",
        "int best(int,int)", "int order(int,int)", "int begins(int,int)", "int wish(int,int)", "int vote(int)",
        "int prefers(int,int)", "int most(int,int)", "int goes(int,int,int,int)", "int way(int,int)",
        "int wage(int,int,int,int,int,int,int) throws", "int deed(int,int,int,int) throws", "int none(int,int,int)",
        "boolean mark(int,boolean)", "int count(int)"};

    public static void main(String[] args) {
        TreeSet<String> open = new TreeSet<>();
        TreeSet<String> names = new TreeSet<>();
        for (Method m : HourAgain.class.getDeclaredMethods()) {
            if (!Modifier.isPrivate(m.getModifiers())) {
                open.add(told(m));
                names.add(m.getName());
                Due.due(m + " is public, of the object", Modifier.isPublic(m.getModifiers()) && !Modifier.isStatic(m.getModifiers()), true);
            }
        }
        Due.due("the methods " + open, open.equals(new TreeSet<>(Arrays.asList(FACE))), true);
        for (Method m : HourAgain.class.getDeclaredMethods()) {
            Due.due(m + " bears a public name", Modifier.isPrivate(m.getModifiers()) && names.contains(m.getName()), false);
        }
        for (Field f : HourAgain.class.getDeclaredFields()) {
            Due.due("field " + f, f.getName().equals("NONE") || Modifier.isPrivate(f.getModifiers()), true);
        }
        Constructor<?>[] made = HourAgain.class.getDeclaredConstructors();
        Due.due("one constructor", made.length, 1);
        Due.due("a public one", Modifier.isPublic(made[0].getModifiers()) && made[0].getParameterCount() == 0, true);
        Due.due("a final class", Modifier.isFinal(HourAgain.class.getModifiers()), true);
        for (Class<?> c : HourAgain.class.getDeclaredClasses()) {
            Due.due(c + " is static", Modifier.isStatic(c.getModifiers()), true);
            Due.due(c + " is hidden", Modifier.isPublic(c.getModifiers()) || Modifier.isProtected(c.getModifiers()), false);
            int fields = 0;
            for (Field f : c.getDeclaredFields()) {
                fields += Modifier.isStatic(f.getModifiers()) ? 0 : 1;
            }
            Due.due(c + " has some twenty fields at most", fields <= 20, true);
        }
        Due.due("some twelve classes at most", HourAgain.class.getDeclaredClasses().length <= 11, true);
        Due.end("FaceTest");
    }

    private static String told(Method m) {
        StringBuilder text = new StringBuilder(m.getReturnType().getName()).append(' ').append(m.getName()).append('(');
        for (Class<?> c : m.getParameterTypes()) {
            text.append(text.charAt(text.length() - 1) == '(' ? "" : ",").append(c.getName());
        }
        text.append(')');
        for (Class<?> c : m.getExceptionTypes()) {
            text.append(c == java.util.NoSuchElementException.class ? " throws" : c.getName());
        }
        return text.toString();
    }
}
