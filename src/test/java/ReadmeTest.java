import java.io.IOException;
import java.lang.reflect.InvocationTargetException;
import java.lang.reflect.Method;
import java.nio.charset.StandardCharsets;
import java.nio.file.Files;
import java.nio.file.Path;
import java.util.HashMap;
import java.util.Map;
import java.util.TreeMap;
import java.util.regex.Matcher;
import java.util.regex.Pattern;
import java.util.stream.Stream;

/**
 * The example of README.md answers what README.md says, line by line, and README.md names each test
 * and the command that runs them all.
 */
public final class ReadmeTest {
    private static final Path README = Path.of("README.md");
    private static final Path TESTS = Path.of("src/test/java");
    private static final String COMMAND = ".ci/run";
    private static final String MADE = "TabLines x = new TabLines();";
    /** Like: int name = x.call(1, 'a', name);  // 3: what it is. */
    private static final Pattern CALL =
            Pattern.compile("(?:int (\\w+) = )?x\\.(\\w+)\\(([^()]*)\\);\\s+// (-?\\d+)(?:: .+)?");
    private static final Pattern SIGN = Pattern.compile("'(.)'");

    private static int wrong = 0;
    private static int called = 0;

    private final TabLines x = new TabLines();
    private final Map<String, Integer> names = new HashMap<>();

    private static void complain(String text) {
        wrong++;
        System.out.println("README.md: " + text);
    }

    private static String example(String readme) {
        String begin = "```java\n";
        int from = readme.indexOf(begin);
        int to = readme.indexOf("```", from + begin.length());
        return from < 0 || to < 0 ? "" : readme.substring(from + begin.length(), to);
    }

    private int valueOf(String argument) {
        Matcher sign = SIGN.matcher(argument);
        if (sign.matches()) {
            return sign.group(1).charAt(0);
        }
        Integer named = names.get(argument);
        return named != null ? named : Integer.parseInt(argument);
    }

    private int call(String name, String list)
            throws IllegalAccessException, InvocationTargetException {
        String[] parts = list.isEmpty() ? new String[0] : list.split(", ");
        Object[] arguments = new Object[parts.length];
        for (int i = 0; i < parts.length; i++) {
            arguments[i] = valueOf(parts[i]);
        }
        for (Method method : TabLines.class.getMethods()) {
            if (method.getName().equals(name) && method.getParameterCount() == parts.length) {
                return (Integer) method.invoke(x, arguments);
            }
        }
        throw new IllegalArgumentException("no such call: " + name);
    }

    private void run(String[] lines) throws IllegalAccessException, InvocationTargetException {
        for (String line : lines) {
            Matcher matcher = CALL.matcher(line);
            if (!matcher.matches()) {
                complain("no call with its answer: " + line);
                continue;
            }
            int got = call(matcher.group(2), matcher.group(3));
            called++;
            if (matcher.group(1) != null) {
                names.put(matcher.group(1), got);
            }
            if (got != Integer.parseInt(matcher.group(4))) {
                complain(line + "\nanswered " + got);
            }
        }
    }

    /** The names of the tests, each with whether README.md has it. */
    private static Map<String, Boolean> testsNamed(String readme) throws IOException {
        Map<String, Boolean> named = new TreeMap<>();
        try (Stream<Path> files = Files.list(TESTS)) {
            files.forEach(file -> {
                String name = file.getFileName().toString().replace(".java", "");
                named.put(name, readme.contains("`" + name + "`"));
            });
        }
        return named;
    }

    public static void main(String[] args)
            throws IOException, IllegalAccessException, InvocationTargetException {
        String readme = Files.readString(README, StandardCharsets.UTF_8);
        String example = example(readme);
        if (example.startsWith(MADE + "\n")) {
            new ReadmeTest().run(example.substring(MADE.length() + 1).split("\n"));
        } else {
            complain("the example does not begin with " + MADE);
        }
        if (called == 0) {
            complain("no example");
        }
        testsNamed(readme).forEach((name, isNamed) -> {
            if (!isNamed) {
                complain("does not name " + name);
            }
        });
        if (!readme.contains("\n    " + COMMAND + "\n") || !Files.isExecutable(Path.of(COMMAND))) {
            complain("does not name the command that runs the tests");
        }
        System.out.println(called + " calls of the example of README.md, " + wrong + " wrong");
        if (wrong != 0) {
            System.exit(1);
        }
    }
}
