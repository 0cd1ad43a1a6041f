import java.lang.reflect.Constructor;
import java.lang.reflect.Field;
import java.lang.reflect.Method;
import java.lang.reflect.Modifier;
import java.util.Arrays;
import java.util.Set;
import java.util.TreeSet;

/** The public face of the document, and nothing else that can be seen from outside (rules 1 and 5 of LANGUAGE.md). */
public final class FaceTest {
    private static final Check CHECK = new Check("the face");

    private static final Set<String> FACE = new TreeSet<>(Arrays.asList(
        "public static final int NONE = -1",
        "public static final int FULL = -2",
        "public static final int CUT = -3",
        "public static final int LARGE = -5",
        "public LogDisk[int, int] []",
        "public int append[int, int, int] [IllegalArgumentException, IllegalStateException]",
        "public int retain[int, int] [IllegalArgumentException, IllegalStateException]",
        "public int thin[int, int] [IllegalArgumentException, IllegalStateException]",
        "public int log[int, int] [IllegalArgumentException, IllegalStateException]",
        "public int entry[int, int, int] [IllegalArgumentException, IllegalStateException]",
        "public int byteAt[int, int, int] [IllegalArgumentException, IllegalStateException]",
        "public void crash[int] [IllegalArgumentException, IllegalStateException]",
        "public int recover[] []",
        "public boolean isDown[] []",
        "public int writes[] []",
        "public int free[] [IllegalStateException]"));

    public static void main(String[] args) throws IllegalAccessException {
        Set<String> seen = seenFromOutside();
        for (String one : FACE) {
            CHECK.due("has " + one, true, seen.contains(one));
        }
        for (String one : seen) {
            CHECK.due("may have " + one, true, FACE.contains(one));
        }
        CHECK.due("is public and final", Modifier.PUBLIC | Modifier.FINAL, LogDisk.class.getModifiers());
        CHECK.due("is made of nothing but Object", "Object", LogDisk.class.getSuperclass().getSimpleName());
        CHECK.due("has no interface", 0, LogDisk.class.getInterfaces().length);
        noPrivateMethodBearsAPublicName();
        noStaticFieldChanges(LogDisk.class);
        for (Class<?> inside : LogDisk.class.getDeclaredClasses()) {
            int can = inside.getModifiers();
            CHECK.due(inside + " can be seen from far", 0, can & (Modifier.PUBLIC | Modifier.PROTECTED));
            CHECK.due(inside + " is static", true, Modifier.isStatic(can));
            noStaticFieldChanges(inside);
        }
        CHECK.end();
    }

    private static Set<String> seenFromOutside() throws IllegalAccessException {
        Set<String> seen = new TreeSet<>();
        for (Field field : LogDisk.class.getDeclaredFields()) {
            if (!Modifier.isPrivate(field.getModifiers())) {
                seen.add(told(field.getModifiers(), field.getType()) + " " + field.getName() + value(field));
            }
        }
        for (Constructor<?> made : LogDisk.class.getDeclaredConstructors()) {
            seen.add(Modifier.toString(made.getModifiers()) + " LogDisk" + names(made.getParameterTypes()) + " "
                + names(made.getExceptionTypes()));
        }
        for (Method method : LogDisk.class.getDeclaredMethods()) {
            if (!Modifier.isPrivate(method.getModifiers())) {
                seen.add(told(method.getModifiers(), method.getReturnType()) + " " + method.getName()
                    + names(method.getParameterTypes()) + " " + names(method.getExceptionTypes()));
            }
        }
        return seen;
    }

    private static String told(int modifiers, Class<?> type) {
        return Modifier.toString(modifiers) + " " + type.getSimpleName();
    }

    private static String value(Field field) throws IllegalAccessException {
        boolean constant = Modifier.isStatic(field.getModifiers()) && field.getType() == int.class;
        return constant ? " = " + field.getInt(null) : "";
    }

    private static void noPrivateMethodBearsAPublicName() {
        Set<String> open = new TreeSet<>();
        for (Method method : LogDisk.class.getMethods()) {
            open.add(method.getName());
        }
        for (Method method : LogDisk.class.getDeclaredMethods()) {
            if (Modifier.isPrivate(method.getModifiers())) {
                CHECK.due(method.getName() + " is the name of a public method", false, open.contains(method.getName()));
            }
        }
    }

    private static void noStaticFieldChanges(Class<?> one) {
        for (Field field : one.getDeclaredFields()) {
            if (Modifier.isStatic(field.getModifiers())) {
                CHECK.due(field.getName() + " is final", true, Modifier.isFinal(field.getModifiers()));
            }
        }
    }

    private static String names(Class<?>[] types) {
        String[] names = new String[types.length];
        for (int i = 0; i < types.length; i++) {
            names[i] = types[i].getSimpleName();
        }
        return Arrays.toString(names);
    }
}
