import java.io.IOException;
import java.lang.reflect.Field;
import java.lang.reflect.Method;
import java.lang.reflect.Modifier;
import java.nio.file.Files;
import java.nio.file.Path;
import java.util.List;
import java.util.regex.Matcher;
import java.util.regex.Pattern;
import java.util.stream.Stream;

/** README.md names every call, code and test, and what its example says is what the class answers. */
public final class ReadmeTest {
    private static final Pattern EXAMPLE = Pattern.compile("```java\n(.*?)```", Pattern.DOTALL);
    private static final Pattern MADE =
            Pattern.compile("RotatingTokenGroup group = new RotatingTokenGroup\\(\\);.*");
    private static final String VALUE = "(?:-?\\d+|true|false)";
    private static final Pattern CALL = Pattern.compile(
            "group\\.(\\w+)\\((" + VALUE + "(?:, " + VALUE + ")?)\\); *// (" + VALUE + ")(:.*)?");
    private static final String COMMAND = ".ci/run";

    private static final Script SCRIPT = new Script();

    public static void main(String[] args) throws IOException {
        String readme = Files.readString(Path.of("README.md"));
        namesEveryCall(readme);
        namesEveryCode(readme);
        namesEveryTest(readme);
        tellsTheCommand(readme);
        example(readme);
        SCRIPT.end();
    }

    private static void namesEveryCall(String readme) {
        for (Method method : RotatingTokenGroup.class.getDeclaredMethods()) {
            if (Modifier.isPublic(method.getModifiers())) {
                String parameters = String.join(", +", List.of("\\w+", "\\w+").subList(0, method.getParameterCount()));
                String row = "(?m)^\\| `" + method.getName() + "\\(" + parameters + "\\)` \\|";
                due(Pattern.compile(row).matcher(readme).find(), method.getName() + " has no row of its own");
            }
        }
    }

    private static void namesEveryCode(String readme) {
        for (Field field : RotatingTokenGroup.class.getDeclaredFields()) {
            if (Modifier.isPublic(field.getModifiers())) {
                String text = "`" + field.getName() + "` (" + value(field) + ")";
                due(readme.contains(text), "there is no " + text);
            }
        }
    }

    private static int value(Field field) {
        try {
            return field.getInt(null);
        } catch (IllegalAccessException failure) {
            throw new IllegalStateException(failure);
        }
    }

    private static void namesEveryTest(String readme) throws IOException {
        try (Stream<Path> files = Files.list(Path.of("src/test/java"))) {
            for (Path file : files.toList()) {
                String name = file.getFileName().toString().replace(".java", "");
                due(readme.contains("`" + name + "`"), "nothing is said of " + name);
            }
        }
    }

    private static void tellsTheCommand(String readme) {
        due(readme.contains("```sh\n" + COMMAND + "\n```"), "the command that runs the tests is not told");
        due(Files.isExecutable(Path.of(COMMAND)), COMMAND + " cannot be run");
    }

    private static void example(String readme) {
        Matcher found = EXAMPLE.matcher(readme);
        if (!found.find()) {
            SCRIPT.fault("README.md: there is no example");
            return;
        }
        String[] lines = found.group(1).split("\n");
        due(MADE.matcher(lines[0]).matches(), "the example does not begin with a new object");
        StringBuilder calls = new StringBuilder();
        for (int k = 1; k < lines.length; k++) {
            Matcher call = CALL.matcher(lines[k]);
            if (call.matches()) {
                calls.append(call.group(1)).append(' ').append(arguments(call.group(2)));
                calls.append(" = ").append(call.group(3)).append('\n');
            } else {
                due(lines[k].isBlank(), "this line of the example cannot be tested: " + lines[k]);
            }
        }
        SCRIPT.run("the example of README.md", calls.toString());
    }

    private static String arguments(String text) {
        return text.replace(",", " ").replace("false", "agreed").replace("true", "safe");
    }

    private static void due(boolean holds, String text) {
        if (!holds) {
            SCRIPT.fault("README.md: " + text);
        }
    }
}
