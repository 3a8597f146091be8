import java.io.IOException;
import java.lang.reflect.InvocationTargetException;
import java.lang.reflect.Method;
import java.nio.file.Files;
import java.nio.file.Path;
import java.util.TreeSet;
import java.util.regex.Matcher;
import java.util.regex.Pattern;

/** Makes the calls of README.md's example: each line has a call and, behind it, the answer that is due. */
public final class ReadmeTest {
    private static final Pattern CALL = Pattern.compile("office\\.(\\w+)\\((.*)\\); +// (-?\\w+).*");

    private static final TreeSet<String> called = new TreeSet<>();

    public static void main(String[] args) throws IOException, IllegalAccessException {
        Check.sentence("README.md");
        CardOffice office = new CardOffice();
        for (String line : Files.readAllLines(Path.of("README.md"))) {
            if (line.startsWith("office.")) {
                makeCall(office, line);
            }
        }
        Check.due("calls of the face that the example leaves out", "[]", leftOut().toString());
        Check.end();
    }

    private static void makeCall(CardOffice office, String line) throws IllegalAccessException {
        Matcher call = CALL.matcher(line);
        if (!call.matches()) {
            Check.due(line, "a call with its answer", "another line");
            return;
        }
        Method method = methodOf(call.group(1));
        called.add(method.getName());
        Check.due(line, call.group(3), answerOf(office, method, call.group(2)));
    }

    private static String answerOf(CardOffice office, Method method, String arguments) throws IllegalAccessException {
        try {
            return String.valueOf(method.invoke(office, valuesOf(method, arguments)));
        } catch (InvocationTargetException e) {
            return e.getCause().getClass().getSimpleName();
        }
    }

    private static Method methodOf(String name) {
        for (Method method : CardOffice.class.getDeclaredMethods()) {
            if (method.getName().equals(name)) {
                return method;
            }
        }
        throw new IllegalStateException("README.md has a call that the class has not: " + name);
    }

    private static Object[] valuesOf(Method method, String arguments) {
        Class<?>[] types = method.getParameterTypes();
        String[] texts = arguments.split(", *");
        Object[] values = new Object[types.length];
        for (int k = 0; k < types.length; k++) {
            values[k] = valueOf(types[k], texts[k]);
        }
        return values;
    }

    private static Object valueOf(Class<?> type, String text) {
        if (type == boolean.class) {
            return Boolean.valueOf(text);
        }
        if (type == long.class) {
            return Long.decode(text.replace("L", ""));
        }
        return Integer.decode(text);
    }

    private static TreeSet<String> leftOut() {
        TreeSet<String> names = new TreeSet<>();
        for (Method method : CardOffice.class.getMethods()) {
            if (method.getDeclaringClass() == CardOffice.class) {
                names.add(method.getName());
            }
        }
        names.removeAll(called);
        return names;
    }
}
