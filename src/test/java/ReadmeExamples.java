import java.io.IOException;
import java.lang.reflect.Method;
import java.lang.reflect.Modifier;
import java.nio.file.Files;
import java.nio.file.Path;
import java.util.Set;
import java.util.TreeSet;
import java.util.regex.Matcher;
import java.util.regex.Pattern;

/** README.md's examples are one run: each call in them answers what the README says behind it. */
public final class ReadmeExamples extends Checks {
    private static final Pattern CALL = Pattern.compile("door\\.(\\w+)\\((.*)\\); +// (-?\\d+|true|false)(:.*)?");
    private static final String MADE = "AnswerDoor door = new AnswerDoor();";

    private static AnswerDoor door = null;
    private static final Set<String> called = new TreeSet<>();

    private static void examples() {
        boolean inside = false;
        for (String line : readme().split("\n")) {
            if (line.startsWith("```")) {
                inside = line.equals("```java");
            } else if (inside && line.equals(MADE)) {
                door = new AnswerDoor();
            } else if (inside) {
                example(line);
            }
        }
    }

    private static void example(String line) {
        Matcher parts = CALL.matcher(line);
        boolean isCall = parts.matches() && door != null;
        yes("a line that is a call with its answer: " + line, isCall);
        if (isCall) {
            called.add(parts.group(1));
            same(line, made(parts.group(1), parts.group(2)), parts.group(3));
        }
    }

    private static String made(String name, String told) {
        try {
            Method method = named(name);
            Class<?>[] types = method.getParameterTypes();
            String[] values = told.isEmpty() ? new String[0] : told.split(", *");
            due("arguments of " + name, values.length, types.length);
            Object[] arguments = new Object[types.length];
            for (int i = 0; i < types.length; i++) {
                arguments[i] = value(types[i], values[i]);
            }
            return String.valueOf(method.invoke(door, arguments));
        } catch (ReflectiveOperationException e) {
            throw new IllegalStateException(e);
        }
    }

    private static Object value(Class<?> type, String told) {
        if (type == boolean.class) {
            return Boolean.valueOf(told);
        }
        return Integer.decode(told);
    }

    private static Method named(String name) {
        for (Method method : AnswerDoor.class.getDeclaredMethods()) {
            if (method.getName().equals(name)) {
                return method;
            }
        }
        throw new IllegalStateException("no method " + name);
    }

    /** A method that no example calls would be one that the README does not say how to use. */
    private static void wholeFace() {
        Set<String> face = new TreeSet<>();
        for (Method method : AnswerDoor.class.getDeclaredMethods()) {
            if (Modifier.isPublic(method.getModifiers())) {
                face.add(method.getName());
            }
        }
        same("the methods in the examples", called, face);
    }

    private static String readme() {
        try {
            return Files.readString(Path.of("README.md"));
        } catch (IOException e) {
            throw new IllegalStateException(e);
        }
    }

    public static void main(String[] args) {
        test("README.md: how to use the class", ReadmeExamples::examples);
        test("README.md: every method", ReadmeExamples::wholeFace);
        report();
    }
}
