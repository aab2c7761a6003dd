import java.io.IOException;
import java.lang.reflect.Method;
import java.lang.reflect.Modifier;
import java.nio.file.Files;
import java.nio.file.Path;
import java.util.HashMap;
import java.util.Map;
import java.util.regex.Matcher;
import java.util.regex.Pattern;

/** README.md's example, line by line: each call is made, and its answer is the number that stands behind it. */
public final class ReadmeTest {
    private static final String FIRST_LINE = "CodeRooms rooms = new CodeRooms();";
    private static final Pattern LINE = Pattern.compile("(?:int (\\w+) = )?rooms\\.(\\w+)\\((.*)\\); +// (-?\\d+)(?:: .*)?");

    private final Checks checks = new Checks("ReadmeTest");
    private final CodeRooms rooms = new CodeRooms();
    private final Map<String, Integer> variables = new HashMap<>();

    private static String exampleOf(String text) {
        int from = text.indexOf("```java\n");
        int to = text.indexOf("\n```\n", from);
        return from < 0 || to < 0 ? "" : text.substring(from + "```java\n".length(), to);
    }

    private void runLine(String line) throws ReflectiveOperationException {
        Matcher parts = LINE.matcher(line);
        checks.same("a call with its answer: " + line, parts.matches(), true);
        if (!parts.matches()) {
            return;
        }
        long answer = call(parts.group(2), parts.group(3));
        checks.same(line, answer, Long.parseLong(parts.group(4)));
        if (parts.group(1) != null) {
            variables.put(parts.group(1), (int) answer);
        }
    }

    private long call(String name, String arguments) throws ReflectiveOperationException {
        String[] texts = arguments.isEmpty() ? new String[0] : arguments.split(", ");
        Class<?>[] types = new Class<?>[texts.length];
        Object[] values = new Object[texts.length];
        for (int k = 0; k < texts.length; k++) {
            types[k] = int.class;
            values[k] = variables.containsKey(texts[k]) ? variables.get(texts[k]) : Integer.decode(texts[k]);
        }
        return ((Number) CodeRooms.class.getMethod(name, types).invoke(rooms, values)).longValue();
    }

    private void runExample(String example) throws ReflectiveOperationException {
        String[] lines = example.split("\n");
        checks.same("the first line", lines[0], FIRST_LINE);
        for (int k = 1; k < lines.length; k++) {
            if (!lines[k].isEmpty()) {
                runLine(lines[k]);
            }
        }
    }

    private void everyCallIsTold(String text) {
        for (Method method : CodeRooms.class.getDeclaredMethods()) {
            if (Modifier.isPublic(method.getModifiers())) {
                checks.same("told: " + method.getName(), text.contains("`" + method.getName() + "("), true);
            }
        }
        checks.same("how to run the tests", text.contains("bash .ci/run"), true);
    }

    public static void main(String[] args) throws IOException, ReflectiveOperationException {
        String text = Files.readString(Path.of("README.md"));
        ReadmeTest test = new ReadmeTest();
        test.runExample(exampleOf(text));
        test.everyCallIsTold(text);
        test.checks.end();
    }
}
