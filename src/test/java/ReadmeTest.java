import java.io.IOException;
import java.lang.reflect.Method;
import java.lang.reflect.Modifier;
import java.nio.file.Files;
import java.nio.file.Path;
import java.util.Arrays;
import java.util.TreeSet;
import java.util.regex.Matcher;
import java.util.regex.Pattern;

/** README.md's examples answer as README.md says, and no call of the face is left out. */
final class ReadmeTest {
    private static final Due due = new Due("readme");
    private static final Pattern BLOCK = Pattern.compile("(?s)```java\n(.*?)```");
    private static final Pattern CALL =
            Pattern.compile("x\\.(\\w+)\\((-?\\d+(?:, -?\\d+)*)\\); +// (-?\\d+|[A-Z]+): .+");
    private static final Pattern ROW = Pattern.compile("(?m)^\\| `(\\w+)\\(([a-z]+(?:, [a-z]+)*)\\)` \\| .+ \\|$");

    public static void main(String[] args) throws ReflectiveOperationException, IOException {
        Path root = Path.of(System.getProperty("project.root", "."));
        String text = Files.readString(root.resolve("README.md"));
        Matcher blocks = BLOCK.matcher(text);
        int examples = 0;
        while (blocks.find()) {
            examples++;
            play("example " + examples, blocks.group(1).split("\n"));
        }
        due.holds("there is an example", examples > 0);
        everyCallHasARow(text);
        due.holds("how to run the tests", text.contains("`.ci/run`"));
        due.end();
    }

    private static void play(String example, String[] lines) throws ReflectiveOperationException {
        due.holds(example + " begins with a new object", lines[0].equals("PromiseHours x = new PromiseHours();"));
        due.holds(example + " makes calls", lines.length > 1);
        PromiseHours x = new PromiseHours();
        for (int i = 1; i < lines.length; i++) {
            Matcher call = CALL.matcher(lines[i]);
            boolean isCall = call.matches();
            due.holds(example + " has a call and its answer: " + lines[i], isCall);
            if (isCall) {
                due.is(example + ": " + lines[i], answer(x, call.group(1), call.group(2)), number(call.group(3)));
            }
        }
    }

    private static int answer(PromiseHours x, String name, String numbers) throws ReflectiveOperationException {
        Object[] given = Arrays.stream(numbers.split(", ")).map(Integer::valueOf).toArray();
        Class<?>[] types = new Class<?>[given.length];
        Arrays.fill(types, int.class);
        return (Integer) PromiseHours.class.getMethod(name, types).invoke(x, given);
    }

    /** A number as it stands, or a constant of the face by its name. */
    private static int number(String text) throws ReflectiveOperationException {
        return Character.isUpperCase(text.charAt(0))
                ? PromiseHours.class.getField(text).getInt(null) : Integer.parseInt(text);
    }

    private static void everyCallHasARow(String text) {
        TreeSet<String> rows = new TreeSet<>();
        Matcher row = ROW.matcher(text);
        while (row.find()) {
            rows.add(row.group(1) + " of " + row.group(2).split(", ").length);
        }
        TreeSet<String> calls = new TreeSet<>();
        for (Method m : PromiseHours.class.getDeclaredMethods()) {
            if (Modifier.isPublic(m.getModifiers())) {
                calls.add(m.getName() + " of " + m.getParameterCount());
            }
        }
        due.holds("the table has the calls " + calls + ": " + rows, rows.equals(calls));
    }
}
