import java.lang.reflect.Constructor;
import java.lang.reflect.Field;
import java.lang.reflect.Method;
import java.lang.reflect.Modifier;
import java.util.TreeSet;

/** The public face is the document's, and nothing else can be seen from outside. */
public final class FaceTest {
    private static final Check CHECK = new Check("FaceTest");
    private static final String NUMBERS = " throws IndexOutOfBoundsException";
    private static final String RANGES = " throws IllegalArgumentException";
    private static final String BOTH = " throws IndexOutOfBoundsException, IllegalArgumentException";
    private static final String[] METHODS = {
        "int ask(int,int,int,long)" + BOTH, "int give(int)" + NUMBERS, "void plan(int,int,int,int)" + BOTH,
        "int take(int)" + NUMBERS, "int run(int)" + RANGES, "int lose(int)" + NUMBERS, "int twice(int)" + NUMBERS,
        "boolean down(int,boolean)" + NUMBERS, "int copy(int,int)" + NUMBERS, "int messages()",
        "int message(int,int)" + NUMBERS, "int keeper(int,int,int)" + NUMBERS, "long kept(int,int)" + NUMBERS,
        "int asker(int,int)" + NUMBERS, "int request(int,int)" + NUMBERS, "long result(int)" + NUMBERS
    };

    public static void main(String[] args) {
        Class<?> face = SharedRegisters.class;
        CHECK.due("public", Modifier.isPublic(face.getModifiers()), true);
        CHECK.due("final", Modifier.isFinal(face.getModifiers()), true);
        CHECK.due("NONE", SharedRegisters.NONE, -1);
        TreeSet<String> want = new TreeSet<>();
        TreeSet<String> names = new TreeSet<>();
        for (String method : METHODS) {
            want.add("public " + method);
            names.add(method.substring(method.indexOf(' ') + 1, method.indexOf('(')));
        }
        want.add("public SharedRegisters()");
        want.add("public static final int NONE");
        CHECK.same("members", seen(face).toString(), want.toString());
        for (Method method : face.getDeclaredMethods()) {
            if (Modifier.isPrivate(method.getModifiers())) {
                CHECK.due("private " + method.getName() + " bears a public name",
                        names.contains(method.getName()), false);
            }
        }
        for (Class<?> inside : face.getDeclaredClasses()) {
            CHECK.due(inside + " is static", Modifier.isStatic(inside.getModifiers()), true);
            CHECK.due(inside + " is public", Modifier.isPublic(inside.getModifiers()), false);
            CHECK.due(inside + " is protected", Modifier.isProtected(inside.getModifiers()), false);
        }
        CHECK.end();
    }

    private static TreeSet<String> seen(Class<?> face) {
        TreeSet<String> seen = new TreeSet<>();
        for (Field field : face.getDeclaredFields()) {
            if (!Modifier.isPrivate(field.getModifiers())) {
                seen.add(Modifier.toString(field.getModifiers()) + " " + field.getType() + " " + field.getName());
            }
        }
        for (Constructor<?> constructor : face.getDeclaredConstructors()) {
            if (!Modifier.isPrivate(constructor.getModifiers())) {
                seen.add(Modifier.toString(constructor.getModifiers()) + " SharedRegisters"
                        + types(constructor.getParameterTypes()));
            }
        }
        for (Method method : face.getDeclaredMethods()) {
            if (!Modifier.isPrivate(method.getModifiers())) {
                seen.add(Modifier.toString(method.getModifiers()) + " " + method.getReturnType() + " "
                        + method.getName() + types(method.getParameterTypes())
                        + thrown(method.getExceptionTypes()));
            }
        }
        return seen;
    }

    private static String thrown(Class<?>[] exceptions) {
        StringBuilder text = new StringBuilder();
        for (Class<?> exception : exceptions) {
            text.append(text.length() == 0 ? " throws " : ", ").append(exception.getSimpleName());
        }
        return text.toString();
    }

    private static String types(Class<?>[] parameters) {
        StringBuilder text = new StringBuilder("(");
        for (int i = 0; i < parameters.length; i++) {
            text.append(i == 0 ? "" : ",").append(parameters[i].getName());
        }
        return text.append(')').toString();
    }
}
