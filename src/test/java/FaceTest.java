import java.lang.reflect.Constructor;
import java.lang.reflect.Field;
import java.lang.reflect.Method;
import java.lang.reflect.Modifier;
import java.util.Arrays;
import java.util.Set;
import java.util.TreeSet;

/** The public face of the document, and nothing else that can be seen from outside. */
public final class FaceTest {
    private static final Check CHECK = new Check("the face");

    private static final Set<String> FACE = new TreeSet<>(Arrays.asList(
        "NONE = -1", "FULL = -2", "CUT = -3", "LARGE = -5",
        "LogDisk[int, int]",
        "int append[int, int, int] [IllegalArgumentException, IllegalStateException]",
        "int retain[int, int] [IllegalArgumentException, IllegalStateException]",
        "int thin[int, int] [IllegalArgumentException, IllegalStateException]",
        "int log[int, int] [IllegalArgumentException, IllegalStateException]",
        "int entry[int, int, int] [IllegalArgumentException, IllegalStateException]",
        "int byteAt[int, int, int] [IllegalArgumentException, IllegalStateException]",
        "void crash[int] [IllegalArgumentException, IllegalStateException]",
        "int recover[] []",
        "boolean isDown[] []",
        "int writes[] []",
        "int free[] [IllegalStateException]"));

    public static void main(String[] args) throws IllegalAccessException {
        Set<String> seen = new TreeSet<>();
        for (Field field : LogDisk.class.getDeclaredFields()) {
            if (!Modifier.isPrivate(field.getModifiers())) {
                seen.add(field.getName() + " = " + field.getInt(null));
            }
        }
        for (Constructor<?> made : LogDisk.class.getDeclaredConstructors()) {
            seen.add("LogDisk" + names(made.getParameterTypes()));
        }
        for (Method method : LogDisk.class.getDeclaredMethods()) {
            if (!Modifier.isPrivate(method.getModifiers())) {
                seen.add(method.getReturnType().getSimpleName() + " " + method.getName()
                    + names(method.getParameterTypes()) + " " + names(method.getExceptionTypes()));
            }
        }
        for (String one : FACE) {
            CHECK.due("has " + one, true, seen.contains(one));
        }
        for (String one : seen) {
            CHECK.due("may have " + one, true, FACE.contains(one));
        }
        CHECK.due("is public and final", Modifier.PUBLIC | Modifier.FINAL, LogDisk.class.getModifiers());
        CHECK.end();
    }

    private static String names(Class<?>[] types) {
        String[] names = new String[types.length];
        for (int i = 0; i < types.length; i++) {
            names[i] = types[i].getSimpleName();
        }
        return Arrays.toString(names);
    }
}
