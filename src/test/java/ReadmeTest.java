import java.io.IOException;
import java.lang.reflect.InvocationTargetException;
import java.lang.reflect.Method;
import java.lang.reflect.Modifier;
import java.nio.file.Files;
import java.nio.file.Path;
import java.util.HashSet;
import java.util.Set;
import java.util.regex.Matcher;
import java.util.regex.Pattern;

/**
 * The calls in the Java parts of README.md, in their order and on one object, answer what their remarks tell, and each
 * method is shown there.
 */
public final class ReadmeTest {
    private static final Path README = Path.of("README.md");
    private static final Pattern PART = Pattern.compile("```java\n(.*?)```", Pattern.DOTALL);
    private static final Pattern CALL = Pattern.compile("vans\\.((\\w+)\\((.*)\\)); +// (-?\\d+)(: .*)?");
    private static final String MAKING = "VisitVans vans = new VisitVans();";
    private static final String[] SETTINGS = {"PACE", "LAST", "SHIFT"};

    public static void main(String[] args) throws Exception {
        VisitVans vans = new VisitVans();
        Set<String> shown = new HashSet<>();
        int makings = 0;
        for (String line : codeLines()) {
            Matcher call = CALL.matcher(line);
            if (line.equals(MAKING)) {
                makings++;
            } else if (call.matches()) {
                shown.add(call.group(2));
                long got = answer(vans, call.group(2), call.group(3));
                Due.due("README.md: " + call.group(1), got, Long.parseLong(call.group(4)));
            } else {
                Due.due("README.md: \"" + line + "\" is a call with its answer", false);
            }
        }
        Due.due("README.md makes one object", makings, 1);
        for (Method method : VisitVans.class.getDeclaredMethods()) {
            boolean hidden = Modifier.isPrivate(method.getModifiers());
            Due.due("README.md shows " + method.getName(), hidden || shown.contains(method.getName()));
        }
        Due.due("README.md tells how to run the tests", Files.readString(README).contains("\n.ci/run\n"));
        Due.finish();
    }

    private static String[] codeLines() throws IOException {
        StringBuilder code = new StringBuilder();
        Matcher part = PART.matcher(Files.readString(README));
        while (part.find()) {
            code.append(part.group(1));
        }
        return code.toString().split("\n");
    }

    private static long answer(VisitVans vans, String name, String values)
            throws IllegalAccessException, InvocationTargetException {
        String[] texts = values.isEmpty() ? new String[0] : values.split(", ");
        for (Method method : VisitVans.class.getMethods()) {
            if (method.getName().equals(name) && method.getParameterCount() == texts.length) {
                return ((Number) method.invoke(vans, values(method, texts))).longValue();
            }
        }
        Due.due("README.md: there is a method " + name + " of " + texts.length + " values", false);
        return 0;
    }

    private static Object[] values(Method method, String[] texts) {
        Object[] values = new Object[texts.length];
        for (int i = 0; i < texts.length; i++) {
            // Not by ?:, which would make a long of both.
            if (method.getParameterTypes()[i] == long.class) {
                values[i] = value(texts[i]);
            } else {
                values[i] = (int) value(texts[i]);
            }
        }
        return values;
    }

    private static long value(String text) {
        for (int setting = 0; setting < SETTINGS.length; setting++) {
            if (text.equals("VisitVans." + SETTINGS[setting])) {
                return setting;
            }
        }
        return Long.decode(text.endsWith("L") ? text.substring(0, text.length() - 1) : text);
    }
}
