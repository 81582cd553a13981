import java.io.IOException;
import java.lang.management.ManagementFactory;
import java.lang.reflect.Constructor;
import java.lang.reflect.Executable;
import java.lang.reflect.Field;
import java.lang.reflect.Method;
import java.lang.reflect.Modifier;
import java.nio.file.Files;
import java.nio.file.Path;
import java.util.ArrayList;
import java.util.List;
import java.util.Set;
import java.util.TreeSet;
import java.util.regex.Matcher;
import java.util.regex.Pattern;

/** The class keeps to those rules of LANGUAGE.md that its text, its members and what it makes can show. */
public final class LanguageTest {
    private static final Check CHECK = new Check("LanguageTest");
    private static final Path FILE = Path.of("src/main/java/SharedRegisters.java");
    private static final String[] BARRED = {
        "\\bpackage\\b", "\\bimport\\b", "->", "::", "\\btry\\b", "\\bcatch\\b", "\\bfinally\\b",
        "\\bsynchronized\\b", "\\bassert\\b", "\\bstatic\\s*\\{", "\\bprotected\\b", "\\bhashCode\\b",
        "\\btoString\\b", "\\bequals\\b", "\\bdouble\\b", "\\bfloat\\b"
    };
    private static final Set<String> LIBRARY = Set.of("Math.max", "Integer.bitCount");
    private static final Set<String> THROWN = Set.of("IndexOutOfBoundsException", "IllegalArgumentException");
    private static final Set<Class<?>> CONSTANTS = Set.of(int.class, long.class, boolean.class, char.class,
            String.class);
    /** A hundred of the dearest runs fit in a room of 600,000 objects, of which none has less than 16 bytes. */
    private static final long MOST_BYTES = 600_000L * 16 / 100;

    public static void main(String[] args) throws IOException {
        List<String> lines = Files.readAllLines(FILE);
        words(code(lines));
        throwsOnlyWhatItMay(code(lines));
        methodsAreShort(lines);
        List<Class<?>> classes = new ArrayList<>(List.of(SharedRegisters.class.getDeclaredClasses()));
        CHECK.due("rule 11: at most twelve classes", classes.size() <= 12, true);
        classes.add(SharedRegisters.class);
        for (Class<?> one : classes) {
            members(one, classes);
        }
        room();
        CHECK.end();
    }

    /** The text without its comments, which may say what they like. */
    private static String code(List<String> lines) {
        return String.join("\n", lines).replaceAll("(?s)/\\*.*?\\*/", "").replaceAll("//.*", "");
    }

    private static void words(String code) {
        for (String word : BARRED) {
            CHECK.due("rules 1 to 6: the class has " + word, Pattern.compile(word).matcher(code).find(), false);
        }
        Set<String> called = new TreeSet<>();
        Matcher call = Pattern.compile("\\b[A-Z]\\w*[a-z]\\w*\\.\\w+").matcher(code);
        while (call.find()) {
            called.add(call.group());
        }
        called.removeAll(LIBRARY);
        CHECK.same("rule 4: the library", called.toString(), "[]");
    }

    private static void throwsOnlyWhatItMay(String code) {
        int written = code.split("\\bthrow\\b", -1).length - 1;
        int plain = 0;
        Matcher thrown = Pattern.compile("\\bthrow new (\\w+)\\(\"[^\"]*\"\\);").matcher(code);
        while (thrown.find()) {
            plain++;
            CHECK.due("rule 6: throws " + thrown.group(1), THROWN.contains(thrown.group(1)), true);
        }
        CHECK.due("rule 6: each throw makes a new exception with a written text", plain, written);
    }

    private static void methodsAreShort(List<String> lines) {
        for (int i = 0; i < lines.size(); i++) {
            String line = lines.get(i);
            String margin = line.substring(0, line.length() - line.stripLeading().length());
            if (line.endsWith("{") && line.contains("(") && line.matches(" +(public|private) .*")) {
                int length = lines.subList(i, lines.size()).indexOf(margin + "}") + 1;
                CHECK.due("rule 11: the length of" + line, length > 0 && length <= 60, true);
            }
        }
    }

    private static void members(Class<?> one, List<Class<?>> own) {
        int fields = 0;
        for (Field field : one.getDeclaredFields()) {
            String name = one.getName() + "." + field.getName();
            if (Modifier.isStatic(field.getModifiers())) {
                CHECK.due("rule 5: final " + name, Modifier.isFinal(field.getModifiers()), true);
                CHECK.due("rule 5: a constant " + name, CONSTANTS.contains(field.getType()), true);
            } else {
                fields++;
                Class<?> type = field.getType().isArray() ? field.getType().getComponentType() : field.getType();
                CHECK.due("rule 3: the type of " + name, type.isPrimitive() || own.contains(type), true);
            }
        }
        CHECK.due("rule 11: at most twenty fields of " + one.getName(), fields <= 20, true);
        for (Method method : one.getDeclaredMethods()) {
            fewParameters(method);
        }
        for (Constructor<?> constructor : one.getDeclaredConstructors()) {
            fewParameters(constructor);
        }
    }

    private static void fewParameters(Executable method) {
        CHECK.due("rule 11: at most seven parameters of " + method, method.getParameterCount() <= 7, true);
    }

    /** Twice, since the first run also pays for what the machine loads. */
    private static void room() {
        dearestRun();
        long before = bytesMade();
        dearestRun();
        long made = bytesMade() - before;
        CHECK.due("rule 12: the dearest run makes " + made + " bytes", made >= 0 && made <= MOST_BYTES, true);
    }

    private static long bytesMade() {
        return ((com.sun.management.ThreadMXBean) ManagementFactory.getThreadMXBean())
                .getCurrentThreadAllocatedBytes();
    }

    /** All the requests that there may be, each with a new state, of nine keepers. */
    private static void dearestRun() {
        SharedRegisters x = new SharedRegisters();
        x.plan(0, 0, 511, 9);
        x.plan(0, 1, 511, 9);
        for (int r = 0; r < 200; r++) {
            x.ask(0, r % 4, 4, 1L);
            x.run(1000);
        }
        for (int key = 0; key < 4; key++) {
            CHECK.due("rule 12: the dearest run came to its end", x.kept(8, key), 50);
        }
    }
}
