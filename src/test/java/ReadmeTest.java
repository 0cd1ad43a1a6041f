import java.io.IOException;
import java.nio.file.Files;
import java.nio.file.Path;
import java.util.Arrays;
import java.util.List;
import java.util.regex.Matcher;
import java.util.regex.Pattern;

/** What README.md shows of the use is what the program answers. */
public final class ReadmeTest {
    private static final Check CHECK = new Check("README.md");

    private static final Pattern MADE = Pattern.compile("LogDisk disk = new LogDisk\\((\\d+), (\\d+)\\);.*");
    private static final Pattern CALL = Pattern.compile("disk\\.(\\w+)\\(([-\\d, ]*)\\); +// ([-\\w.]+).*");

    public static void main(String[] args) throws IOException, ReflectiveOperationException {
        LogDisk disk = null;
        boolean shown = false;
        for (String line : Files.readAllLines(Path.of("README.md"))) {
            Matcher made = MADE.matcher(line);
            if (line.startsWith("```")) {
                shown = line.equals("```java");
            } else if (shown && made.matches()) {
                disk = new LogDisk(Integer.parseInt(made.group(1)), Integer.parseInt(made.group(2)));
            } else if (shown) {
                asShown(disk, line);
            }
        }
        CHECK.end();
    }

    private static void asShown(LogDisk disk, String line) throws ReflectiveOperationException {
        Matcher call = CALL.matcher(line);
        boolean plain = disk != null && call.matches();
        CHECK.due("can be read: " + line, true, plain);
        if (plain) {
            CHECK.due(line, dueOf(call.group(3)), answer(disk, call.group(1), numbers(call.group(2))));
        }
    }

    private static Object[] numbers(String list) {
        return list.isEmpty() ? new Object[0] : List.of(list.split(", ")).stream().map(Integer::valueOf).toArray();
    }

    private static String answer(LogDisk disk, String name, Object[] numbers) throws ReflectiveOperationException {
        Class<?>[] types = new Class<?>[numbers.length];
        Arrays.fill(types, int.class);
        return String.valueOf(LogDisk.class.getMethod(name, types).invoke(disk, numbers));
    }

    /** A constant's name stands for its number; a call without an answer is shown as "nothing". */
    private static String dueOf(String word) throws ReflectiveOperationException {
        if (word.startsWith("LogDisk.")) {
            return String.valueOf(LogDisk.class.getField(word.substring(word.indexOf('.') + 1)).getInt(null));
        }
        return word.equals("nothing") ? "null" : word;
    }
}
