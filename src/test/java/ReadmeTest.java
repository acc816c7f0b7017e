import java.io.IOException;
import java.lang.reflect.InvocationTargetException;
import java.lang.reflect.Method;
import java.nio.file.Files;
import java.nio.file.Path;
import java.util.regex.Matcher;
import java.util.regex.Pattern;

/** The run of calls in README.md answers what stands behind each call there, and README names every call. */
public final class ReadmeTest {
    private static final Pattern CALL = Pattern.compile("house\\.(\\w+)\\(([^)]*)\\); *// (?:(-?\\d+): )?.*");

    public static void main(String[] args) throws IOException, IllegalAccessException, InvocationTargetException {
        String text = Files.readString(Path.of("README.md"));
        String run = text.substring(text.indexOf("```java\n") + 8);
        run = run.substring(0, run.indexOf("```"));
        AsOneHouse house = new AsOneHouse();
        for (String line : run.lines().toList()) {
            if (!line.equals("AsOneHouse house = new AsOneHouse();")) {
                call(house, line);
            }
        }
        for (Method m : AsOneHouse.class.getMethods()) {
            if (m.getDeclaringClass() == AsOneHouse.class) {
                Due.is("README tells of " + m.getName(), 1, text.contains("`" + m.getName() + "(") ? 1 : 0);
            }
        }
        Due.is("README tells how to run the tests", 1, text.contains("\n    .ci/run\n") ? 1 : 0);
        Due.end();
    }

    private static void call(AsOneHouse house, String line) throws IllegalAccessException, InvocationTargetException {
        Matcher m = CALL.matcher(line);
        Due.is("a call: " + line, 1, m.matches() ? 1 : 0);
        Method method = named(m.group(1));
        String[] words = m.group(2).isEmpty() ? new String[0] : m.group(2).split(", ");
        Object[] values = new Object[words.length];
        for (int i = 0; i < words.length; i++) {
            boolean isFlag = method.getParameterTypes()[i] == boolean.class;
            values[i] = isFlag ? (Object) Boolean.valueOf(words[i]) : (Object) Long.decode(words[i]).intValue();
        }
        Object got = method.invoke(house, values);
        Due.is("an answer stands behind it: " + line, got == null ? 0 : 1, m.group(3) == null ? 0 : 1);
        if (got != null && m.group(3) != null) {
            Due.is(line, Integer.parseInt(m.group(3)), (Integer) got);
        }
    }

    private static Method named(String name) {
        for (Method m : AsOneHouse.class.getMethods()) {
            if (m.getName().equals(name)) {
                return m;
            }
        }
        throw new IllegalStateException("README calls " + name);
    }
}
