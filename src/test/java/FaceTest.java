import java.lang.reflect.Constructor;
import java.lang.reflect.Field;
import java.lang.reflect.Method;
import java.lang.reflect.Modifier;
import java.util.Arrays;
import java.util.TreeSet;

/** The public face is the document's, and nothing else of the class can be seen from outside. */
public final class FaceTest {
    private static final String[] METHODS = {
        "int act(int, int, int)", "int choose(int, int)", "boolean allowed(int, int)", "int reset()", "int state(int)",
        "int letter(int, int)", "int owner(int)", "int held(int)", "int inSet(int, int)", "int explore()",
        "long outcome(int)", "boolean mayBlock(int)", "int count(int)"
    };

    public static void main(String[] args) {
        Check check = new Check();
        check.about("the face");
        check.due("REFUSED", MonitorWays.REFUSED, -1);
        check.due("FULL", MonitorWays.FULL, -2);
        check.due("NONE", MonitorWays.NONE, -1L);
        check.due("modifiers", MonitorWays.class.getModifiers(), Modifier.PUBLIC | Modifier.FINAL);
        check.due("methods", seenMethods().toString(), new TreeSet<>(Arrays.asList(METHODS)).toString());
        check.due("fields", seenFields().toString(), "[int FULL, int REFUSED, long NONE]");
        check.due("constructors", seenConstructors().toString(), "[(int)]");
        check.end();
    }

    private static TreeSet<String> seenMethods() {
        TreeSet<String> seen = new TreeSet<>();
        for (Method method : MonitorWays.class.getDeclaredMethods()) {
            if (!Modifier.isPrivate(method.getModifiers()) && !method.isSynthetic()) {
                seen.add(method.getReturnType() + " " + method.getName() + types(method.getParameterTypes()));
            }
        }
        return seen;
    }

    private static TreeSet<String> seenFields() {
        TreeSet<String> seen = new TreeSet<>();
        for (Field field : MonitorWays.class.getDeclaredFields()) {
            if (!Modifier.isPrivate(field.getModifiers()) && !field.isSynthetic()) {
                seen.add(field.getType() + " " + field.getName());
            }
        }
        return seen;
    }

    private static TreeSet<String> seenConstructors() {
        TreeSet<String> seen = new TreeSet<>();
        for (Constructor<?> constructor : MonitorWays.class.getDeclaredConstructors()) {
            seen.add(types(constructor.getParameterTypes()));
        }
        return seen;
    }

    private static String types(Class<?>[] parameters) {
        StringBuilder text = new StringBuilder("(");
        for (Class<?> parameter : parameters) {
            text.append(text.length() > 1 ? ", " : "").append(parameter.getName());
        }
        return text.append(")").toString();
    }
}
