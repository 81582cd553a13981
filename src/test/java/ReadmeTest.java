import java.io.IOException;
import java.lang.reflect.InvocationTargetException;
import java.lang.reflect.Method;
import java.nio.file.Files;
import java.nio.file.Path;
import java.util.List;
import java.util.regex.Matcher;
import java.util.regex.Pattern;

/**
 * The examples of README.md hold. A line of one is a call, and behind // stands the answer that is due, or the
 * exception; after a colon, words for the reader.
 */
public final class ReadmeTest {
    private static final Check CHECK = new Check("ReadmeTest");
    private static final String BEGINS = "SharedRegisters x = new SharedRegisters();";
    private static final Pattern CALL = Pattern.compile("x\\.(\\w+)\\((.*?)\\);\\s*// ([^:]*)(:.*)?");

    private static SharedRegisters x = null;

    public static void main(String[] args) throws IOException, IllegalAccessException {
        List<String> lines = Files.readAllLines(Path.of("README.md"));
        boolean inside = false;
        for (String line : lines) {
            if (line.startsWith("```")) {
                inside = line.equals("```java");
                x = null;
            } else if (inside) {
                follow(line);
            }
        }
        CHECK.sentence("the examples");
        CHECK.due("there are examples", lines.contains(BEGINS), true);
        CHECK.end();
    }

    private static void follow(String line) throws IllegalAccessException {
        Matcher call = CALL.matcher(line);
        if (line.equals(BEGINS)) {
            x = new SharedRegisters();
        } else if (x != null && call.matches()) {
            CHECK.same(line, answer(call.group(1), call.group(2).split(", ")), call.group(3));
        } else {
            CHECK.fault("an example has a line that is no call: " + line);
        }
    }

    private static String answer(String name, String[] texts) throws IllegalAccessException {
        for (Method method : SharedRegisters.class.getMethods()) {
            if (method.getName().equals(name)) {
                return answer(method, texts);
            }
        }
        return "no such method";
    }

    private static String answer(Method method, String[] texts) throws IllegalAccessException {
        Class<?>[] types = method.getParameterTypes();
        Object[] values = new Object[types.length];
        for (int i = 0; i < types.length; i++) {
            values[i] = value(types[i], texts[i]);
        }
        try {
            Object answer = method.invoke(x, values);
            return answer == null ? "nothing" : answer.toString();
        } catch (InvocationTargetException e) {
            return e.getCause().getClass().getSimpleName();
        }
    }

    private static Object value(Class<?> type, String text) {
        if (type == boolean.class) {
            return Boolean.valueOf(text);
        }
        if (type == long.class) {
            return Long.valueOf(text.replace("L", ""));
        }
        return text.startsWith("0b") ? Integer.valueOf(text.substring(2), 2) : Integer.valueOf(text);
    }
}
