import java.io.IOException;
import java.lang.reflect.InvocationTargetException;
import java.lang.reflect.Method;
import java.lang.reflect.Modifier;
import java.nio.file.DirectoryStream;
import java.nio.file.Files;
import java.nio.file.Path;
import java.util.regex.Matcher;
import java.util.regex.Pattern;

/** README.md tells of the class and the tests as they are; it is run from the project's root. */
public final class ReadmeTest {
    private static final Pattern CALL = Pattern.compile("box\\.(\\w+)\\(([^)]*)\\); +// (-?\\d+)\\b.*");
    private static final Due due = new Due();

    public static void main(String[] args) throws IOException, ReflectiveOperationException {
        String text = Files.readString(Path.of("README.md"));
        example(text);
        calls(text, Files.readString(Path.of("../shared/DOC.md")));
        classes(text);
        tests(text);
        due.close();
    }

    /** Every line of the example is a call whose answer stands behind it. */
    private static void example(String text) throws ReflectiveOperationException {
        Matcher block = Pattern.compile("(?s)```java\n(.*?)```").matcher(text);
        due.is("there is an example", block.find() ? 1 : 0, 1);
        String[] lines = block.group(1).split("\n");
        due.isText("its first line", lines[0], "ReplayBox box = new ReplayBox();");
        ReplayBox box = new ReplayBox();
        for (int k = 1; k < lines.length; k++) {
            Matcher call = CALL.matcher(lines[k]);
            if (call.matches()) {
                int want = Integer.parseInt(call.group(3));
                due.is("the example: " + lines[k], made(box, call.group(1), call.group(2)), want);
            } else {
                due.isText("a line of the example", lines[k], "a call and its answer");
            }
        }
    }

    private static int made(ReplayBox box, String name, String numbers) throws ReflectiveOperationException {
        String[] words = numbers.isBlank() ? new String[0] : numbers.split(", *");
        Class<?>[] types = new Class<?>[words.length];
        Object[] values = new Object[words.length];
        for (int k = 0; k < words.length; k++) {
            types[k] = int.class;
            values[k] = Integer.parseInt(words[k]);
        }
        try {
            return (int) ReplayBox.class.getMethod(name, types).invoke(box, values);
        } catch (InvocationTargetException thrown) {
            throw new IllegalStateException("the example's " + name + "(" + numbers + ") throws", thrown.getCause());
        }
    }

    /** Every call stands in a table with the number that its promise has in the document. */
    private static void calls(String text, String document) {
        for (Method method : ReplayBox.class.getDeclaredMethods()) {
            if (!Modifier.isPublic(method.getModifiers())) {
                continue;
            }
            String name = method.getName();
            Matcher promise = Pattern.compile("(?m)^## Promise (\\d+): " + name + "$").matcher(document);
            String entry = promise.find() ? "`" + name + "` " + promise.group(1) : "`" + name + "`";
            boolean told = Pattern.compile(Pattern.quote(entry) + "(,| \\|)").matcher(text).find();
            due.isText("README.md tells of " + entry, told ? "yes" : "no", "yes");
        }
    }

    private static void classes(String text) {
        for (Class<?> inside : ReplayBox.class.getDeclaredClasses()) {
            String name = "`" + inside.getSimpleName() + "`";
            due.isText("README.md tells of " + name, text.contains(name) ? "yes" : "no", "yes");
        }
    }

    private static void tests(String text) throws IOException {
        int count = 0;
        try (DirectoryStream<Path> files = Files.newDirectoryStream(Path.of("src/test/java"), "*Test.java")) {
            for (Path file : files) {
                String name = file.getFileName().toString().replace(".java", "");
                due.isText("README.md tells of " + name, text.contains("\n| " + name + " | ") ? "yes" : "no", "yes");
                count++;
            }
        }
        Matcher rows = Pattern.compile("(?m)^\\| \\w+Test \\| ").matcher(text);
        due.is("tests that README.md tells of", (int) rows.results().count(), count);
    }
}
