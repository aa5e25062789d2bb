import java.io.IOException;
import java.lang.reflect.InvocationTargetException;
import java.lang.reflect.Method;
import java.lang.reflect.Modifier;
import java.nio.file.Files;
import java.nio.file.Path;
import java.util.Set;
import java.util.TreeSet;
import java.util.regex.Matcher;
import java.util.regex.Pattern;

/** README.md shows every method of the face, and each of its calls answers what stands behind it. */
public final class ReadmeTest {
    private static final Pattern CALL = Pattern.compile("x\\.(\\w+)\\(([^)]*)\\);\\s+// (.+)");
    private static final Checks CHECKS = new Checks("ReadmeTest");

    public static void main(String[] args) throws IOException {
        ClauseGraph x = new ClauseGraph();
        Set<String> shown = new TreeSet<>();
        for (String line : Files.readAllLines(Path.of("README.md"))) {
            Matcher call = CALL.matcher(line);
            if (call.matches()) {
                shown.add(call.group(1));
                check(line, x, methodOf(call.group(1)), call.group(2), call.group(3));
            }
        }
        for (Method method : ClauseGraph.class.getDeclaredMethods()) {
            if (Modifier.isPublic(method.getModifiers())) {
                CHECKS.due("README.md shows " + method.getName(), shown.contains(method.getName()), true);
            }
        }
        CHECKS.end();
    }

    private static Method methodOf(String name) {
        for (Method method : ClauseGraph.class.getDeclaredMethods()) {
            if (method.getName().equals(name)) {
                return method;
            }
        }
        throw new IllegalStateException("README.md calls " + name + ", which is not there");
    }

    /** What stands behind a call is its answer up to a colon; behind one without answer it is free. */
    private static void check(String line, ClauseGraph x, Method method, String numbers, String behind) {
        String got = answer(x, method, numbers);
        boolean isFree = method.getReturnType() == void.class && !behind.startsWith("throws ");
        CHECKS.due(line.trim(), got, isFree ? "null" : behind.split(":")[0].replace("NONE", "-1"));
    }

    private static String answer(ClauseGraph x, Method method, String numbers) {
        String[] texts = numbers.isEmpty() ? new String[0] : numbers.split(", ");
        Object[] values = new Object[texts.length];
        for (int i = 0; i < texts.length; i++) {
            values[i] = Integer.valueOf(texts[i]);
        }
        try {
            return String.valueOf(method.invoke(x, values));
        } catch (InvocationTargetException e) {
            return "throws " + e.getCause().getClass().getSimpleName();
        } catch (IllegalAccessException e) {
            throw new IllegalStateException(e);
        }
    }
}
