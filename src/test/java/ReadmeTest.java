import java.io.IOException;
import java.lang.reflect.Method;
import java.nio.file.Files;
import java.nio.file.Path;
import java.util.ArrayList;
import java.util.List;
import java.util.regex.Matcher;
import java.util.regex.Pattern;

/** README.md: every call of its example answers what stands behind it, and no method is left out. */
public final class ReadmeTest {
    private static final Due due = new Due("ReadmeTest");
    private static final Pattern LINE = Pattern.compile("row\\.(\\w+)\\((.*)\\);\\s*// (\\S+?)(:.*)?");

    private static List<String> lines;

    public static void main(String[] args) throws IOException {
        lines = Files.readAllLines(Path.of("README.md"));
        due.sentence("The example answers what README.md says", ReadmeTest::exampleHolds);
        due.sentence("README.md tells of every method", ReadmeTest::everyMethodIsTold);
        due.finish();
    }

    private static void exampleHolds() {
        TwinParity row = new TwinParity();
        for (String line : example()) {
            Matcher m = LINE.matcher(line);
            due.is("a call and its answer: " + line, m.matches() ? 1 : 0, 1);
            if (m.matches()) {
                due.is(line, call(row, m.group(1), m.group(2)), number(m.group(3)));
            }
        }
    }

    /** The lines between the fences, behind the one that makes the object. */
    private static List<String> example() {
        int begin = lines.indexOf("```java");
        List<String> behind = lines.subList(begin + 1, lines.size());
        List<String> calls = new ArrayList<>(behind.subList(0, behind.indexOf("```")));
        due.is("the first line makes the row", calls.remove(0).startsWith("TwinParity row = new TwinParity();") ? 1 : 0, 1);
        return calls;
    }

    private static void everyMethodIsTold() {
        for (Method method : TwinParity.class.getDeclaredMethods()) {
            String row = "| `" + method.getName() + "(";
            boolean told = lines.stream().anyMatch(line -> line.startsWith(row));
            due.is(method.getName(), told || isPrivate(method) ? 1 : 0, 1);
        }
    }

    private static boolean isPrivate(Method method) {
        return java.lang.reflect.Modifier.isPrivate(method.getModifiers());
    }

    private static long call(TwinParity row, String name, String arguments) {
        for (Method method : TwinParity.class.getMethods()) {
            if (method.getName().equals(name)) {
                try {
                    return ((Number) method.invoke(row, values(method, arguments))).longValue();
                } catch (ReflectiveOperationException e) {
                    throw new IllegalStateException(e);
                }
            }
        }
        throw new IllegalStateException("no method " + name);
    }

    private static Object[] values(Method method, String arguments) {
        String[] texts = arguments.isEmpty() ? new String[0] : arguments.split(", ");
        Class<?>[] types = method.getParameterTypes();
        Object[] values = new Object[types.length];
        for (int i = 0; i < types.length; i++) {
            values[i] = value(types[i], texts[i]);
        }
        return values;
    }

    private static Object value(Class<?> type, String text) {
        if (type == boolean.class) {
            return Boolean.valueOf(text);
        }
        if (type == long.class) {
            return number(text);
        }
        return (int) number(text);
    }

    private static long number(String text) {
        switch (text) {
            case "BAD":
                return TwinParity.BAD;
            case "FITS":
                return TwinParity.FITS;
            case "MANY":
                return TwinParity.MANY;
            default:
                return Long.decode(text.replaceAll("L$", ""));
        }
    }
}
