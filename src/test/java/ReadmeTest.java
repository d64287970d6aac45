import java.io.IOException;
import java.lang.reflect.InvocationTargetException;
import java.lang.reflect.Method;
import java.lang.reflect.Modifier;
import java.nio.file.Files;
import java.nio.file.Path;
import java.util.regex.Matcher;
import java.util.regex.Pattern;

/** The example in README.md answers what it says, and every call of the face is told of there. */
public final class ReadmeTest {
    private static final Pattern MAKING = Pattern.compile("MonitorWays x = new MonitorWays\\((-?\\d+)\\);");
    private static final Pattern CALL = Pattern.compile("x\\.(\\w+)\\(([-\\d, ]*)\\); *// ([^:]+): .*");

    private final Check check = new Check();
    private MonitorWays x;

    public static void main(String[] args) throws IOException {
        // .ci/run starts the tests where README.md stands.
        String text = Files.readString(Path.of("README.md"));
        ReadmeTest test = new ReadmeTest();
        test.example(text);
        test.allCallsAreTold(text);
        test.check.end();
    }

    private void example(String text) {
        check.about("the example");
        String code = text.substring(text.indexOf("```java\n") + 8);
        for (String line : code.substring(0, code.indexOf("```")).split("\n")) {
            Matcher making = MAKING.matcher(line);
            Matcher call = CALL.matcher(line);
            if (making.matches()) {
                x = new MonitorWays(Integer.parseInt(making.group(1)));
            } else if (call.matches()) {
                check.due(line, answer(call.group(1), call.group(2)), call.group(3));
            } else {
                check.due("a line that is no call", line, "");
            }
        }
    }

    private String answer(String name, String numbers) {
        String[] texts = numbers.isEmpty() ? new String[0] : numbers.split(", ");
        Object[] arguments = new Object[texts.length];
        for (int i = 0; i < texts.length; i++) {
            arguments[i] = Integer.valueOf(texts[i]);
        }
        for (Method method : MonitorWays.class.getMethods()) {
            if (method.getName().equals(name) && method.getParameterCount() == arguments.length) {
                return invoked(method, arguments);
            }
        }
        return "there is no such call";
    }

    private String invoked(Method method, Object[] arguments) {
        try {
            return String.valueOf(method.invoke(x, arguments));
        } catch (IllegalAccessException | InvocationTargetException e) {
            return e.toString();
        }
    }

    private void allCallsAreTold(String text) {
        check.about("what each call is for");
        for (Method method : MonitorWays.class.getDeclaredMethods()) {
            if (Modifier.isPublic(method.getModifiers())) {
                check.due(method.getName() + " has a row", text.contains("| `" + method.getName() + "("), true);
                check.due(method.getName() + " is in the example", text.contains("\nx." + method.getName() + "("), true);
            }
        }
    }
}
