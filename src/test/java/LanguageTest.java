import java.io.IOException;
import java.lang.reflect.Field;
import java.lang.reflect.Method;
import java.lang.reflect.Modifier;
import java.nio.file.Files;
import java.nio.file.Path;
import java.util.ArrayList;
import java.util.Arrays;
import java.util.List;
import java.util.TreeSet;
import java.util.regex.Matcher;
import java.util.regex.Pattern;

/** What can be seen of ../shared/LANGUAGE.md's rules from the source and the classes. */
final class LanguageTest {
    private static final Due due = new Due("language");
    private static final int MOST_LINES = 60;

    public static void main(String[] args) throws IOException {
        Path root = Path.of(System.getProperty("project.root", "."));
        Path source = root.resolve("src/main/java/PromiseHours.java");
        String code = withoutComments(Files.readString(source));
        noForbiddenWords(code);
        onlyTheLibraryThatIsLeft(code);
        methodsAreShort(code);
        List<Class<?>> classes = new ArrayList<>();
        classes.add(PromiseHours.class);
        classes.addAll(Arrays.asList(PromiseHours.class.getDeclaredClasses()));
        due.holds("at most twelve classes", classes.size() <= 12);
        classes.forEach(LanguageTest::classKeepsTheRules);
        due.end();
    }

    private static String withoutComments(String text) {
        return text.replaceAll("(?s)/\\*.*?\\*/", "").replaceAll("//[^\n]*", "");
    }

    private static void noForbiddenWords(String code) {
        String[] words = {"package", "throw", "throws", "try", "catch", "finally", "synchronized", "assert",
            "protected", "native", "volatile", "transient", "var", "yield", "equals", "hashCode", "toString"};
        for (String word : words) {
            due.holds("no " + word, !Pattern.compile("\\b" + word + "\\b").matcher(code).find());
        }
        due.holds("no lambda", !code.contains("->"));
        due.holds("no method reference", !code.contains("::"));
        due.holds("no static block", !Pattern.compile("\\bstatic\\s*\\{").matcher(code).find());
        due.holds("no annotation", !code.contains("@"));
        due.holds("no sign beyond 127", code.chars().allMatch(c -> c < 128));
    }

    private static void onlyTheLibraryThatIsLeft(String code) {
        TreeSet<String> left = new TreeSet<>(List.of("java.util.Arrays", "System.arraycopy",
                "Arrays.fill", "Math.min", "Math.max", "Math.abs"));
        Matcher uses = Pattern.compile("\\b(java(\\.\\w+)+|[A-Z]\\w*[a-z]\\w*\\.\\w+)").matcher(code);
        while (uses.find()) {
            due.holds("only the library that is left: " + uses.group(), left.contains(uses.group()));
        }
    }

    /** By the source's layout: a member opens at four or eight spaces and closes there. */
    private static void methodsAreShort(String code) {
        String[] lines = code.split("\n");
        for (int i = 0; i < lines.length; i++) {
            Matcher opens = Pattern.compile("^( {4}| {8})(public|private) .*\\) \\{$").matcher(lines[i]);
            if (opens.find()) {
                int end = i;
                while (end < lines.length && !lines[end].equals(opens.group(1) + "}")) {
                    end++;
                }
                due.holds("short: " + lines[i].trim(), end - i < MOST_LINES);
            }
        }
    }

    private static void classKeepsTheRules(Class<?> c) {
        if (c != PromiseHours.class) {
            due.holds(c + " is static", Modifier.isStatic(c.getModifiers()));
            due.holds(c + " is not for others",
                    !Modifier.isPublic(c.getModifiers()) && !Modifier.isProtected(c.getModifiers()));
        }
        int fields = 0;
        for (Field f : c.getDeclaredFields()) {
            boolean isStatic = Modifier.isStatic(f.getModifiers());
            due.holds(f + " is final if static", !isStatic || Modifier.isFinal(f.getModifiers()));
            fields += isStatic ? 0 : 1;
        }
        due.holds(c + " has at most twenty fields", fields <= 20);
        for (Method m : c.getDeclaredMethods()) {
            due.holds(m + " takes at most seven", m.getParameterCount() <= 7);
            due.holds(m + " bears no name of the face", Modifier.isPublic(m.getModifiers())
                    || Arrays.stream(PromiseHours.class.getMethods()).noneMatch(f -> f.getName().equals(m.getName())));
        }
    }
}
