import java.io.IOException;
import java.lang.reflect.InvocationTargetException;
import java.lang.reflect.Method;
import java.nio.file.Files;
import java.nio.file.Path;
import java.util.List;
import java.util.regex.Matcher;
import java.util.regex.Pattern;
import java.util.stream.Collectors;
import java.util.stream.Stream;

/** What README.md says is so: its example, call by call, and its list of the tests; run from the project's folder. */
public final class ReadmeTest {
    private static final Check CHECK = new Check();
    private static final Pattern CALL = Pattern.compile("wall\\.(\\w+)\\((.*)\\); +// (throws \\w+|[-\\d.]+)(:.*)?");
    private static final Pattern OTHER = Pattern.compile("Nettle wall = new Nettle\\(\\);|// [\\w ]+");

    public static void main(String[] args) throws IOException {
        String text = Files.readString(Path.of("README.md"));
        CHECK.sentence("README: how an object is made and asked", () -> example(text));
        CHECK.sentence("README: the one command that runs the tests",
                () -> CHECK.same("the command", text.contains("\n    .ci/run\n"), true));
        List<String> tests = tests();
        CHECK.sentence("README: what the tests are", () -> {
            for (String test : tests) {
                CHECK.same(test + " is told of", text.contains("`" + test + "`"), true);
            }
        });
        CHECK.done("ReadmeTest");
    }

    private static List<String> tests() throws IOException {
        try (Stream<Path> files = Files.list(Path.of("src/test/java"))) {
            return files.map(file -> file.getFileName().toString().replace(".java", "")).sorted()
                    .collect(Collectors.toList());
        }
    }

    private static void example(String text) {
        int start = text.indexOf("```java\n") + "```java\n".length();
        Nettle wall = new Nettle();
        int calls = 0;
        for (String line : text.substring(start, text.indexOf("```\n", start)).split("\n")) {
            Matcher call = CALL.matcher(line);
            if (call.matches()) {
                calls++;
                CHECK.same(line, answer(wall, call.group(1), call.group(2)), call.group(3));
            } else {
                CHECK.same("a line of another kind: " + line, OTHER.matcher(line).matches(), true);
            }
        }
        CHECK.same("it has calls", calls > 0, true);
    }

    private static String answer(Nettle wall, String name, String numbers) {
        for (Method method : Nettle.class.getMethods()) {
            if (method.getName().equals(name)) {
                try {
                    return String.valueOf(method.invoke(wall, values(numbers)));
                } catch (InvocationTargetException e) {
                    return "throws " + e.getCause().getClass().getSimpleName();
                } catch (IllegalAccessException e) {
                    return "cannot be called";
                }
            }
        }
        return "is no call";
    }

    private static Object[] values(String numbers) {
        String[] parts = numbers.isEmpty() ? new String[0] : numbers.split(", ");
        Object[] values = new Object[parts.length];
        for (int i = 0; i < parts.length; i++) {
            values[i] = Integer.valueOf(parts[i]);
        }
        return values;
    }
}
