import java.io.IOException;
import java.lang.reflect.InvocationTargetException;
import java.lang.reflect.Method;
import java.lang.reflect.Modifier;
import java.nio.file.Files;
import java.nio.file.Path;
import java.util.ArrayList;
import java.util.HashMap;
import java.util.List;
import java.util.Map;
import java.util.Set;
import java.util.TreeSet;
import java.util.regex.Matcher;
import java.util.regex.Pattern;

/** What README.md says of the class and of the tests: its example, its table of calls, its names of tests. */
public final class ReadmeTest {
    private static final Path README = Path.of("README.md");
    private static final Path TESTS = Path.of("src", "test", "java");

    private static final Pattern EXAMPLE = Pattern.compile(
        "(?:int (\\w+) = )?splitter\\.(\\w+)\\(([^)]*)\\); +// (throws \\w+|-?\\w+)(?:[:;,].*)?");
    private static final Pattern ROW = Pattern.compile("\\| `(\\w+)\\(([^)]*)\\)` \\| .+ \\| (.*)\\|");
    private static final Pattern NAMED_TEST = Pattern.compile("`(\\w+Test)`");

    private static int wrong = 0;

    public static void main(String[] args) throws Exception {
        List<String> lines = Files.readAllLines(README);
        runExample(lines);
        compareTable(lines);
        compareNames(lines);
        if (wrong != 0) {
            System.exit(1);
        }
    }

    private static void runExample(List<String> lines) throws IllegalAccessException {
        int start = lines.indexOf("```java");
        if (start < 0 || !lines.get(start + 1).equals("PartSplitter splitter = new PartSplitter();")) {
            tell("there is no example");
            return;
        }
        PartSplitter splitter = new PartSplitter();
        Map<String, String> names = new HashMap<>();
        for (String line : lines.subList(start + 2, lines.size())) {
            if (line.equals("```")) {
                return;
            }
            Matcher example = EXAMPLE.matcher(line);
            if (!example.matches()) {
                tell("cannot be read: " + line);
                continue;
            }
            String answer = answerOf(splitter, example.group(2), example.group(3), names);
            if (!answer.equals(example.group(4))) {
                tell("answered " + answer + ": " + line);
            }
            if (example.group(1) != null) {
                names.put(example.group(1), answer);
            }
        }
        tell("the example has no end");
    }

    private static String answerOf(PartSplitter splitter, String call, String passed, Map<String, String> names)
            throws IllegalAccessException {
        Method method = callOf(call);
        if (method == null) {
            return "no such call";
        }
        List<Object> values = new ArrayList<>();
        for (String word : passed.isEmpty() ? new String[0] : passed.split(", ")) {
            String value = names.getOrDefault(word, word);
            if (value.equals("true") || value.equals("false")) {
                values.add(Boolean.valueOf(value));
            } else {
                values.add(Integer.valueOf(value));
            }
        }
        try {
            return String.valueOf(method.invoke(splitter, values.toArray()));
        } catch (InvocationTargetException e) {
            return "throws " + e.getCause().getClass().getSimpleName();
        }
    }

    private static Method callOf(String name) {
        for (Method method : PartSplitter.class.getDeclaredMethods()) {
            if (Modifier.isPublic(method.getModifiers()) && method.getName().equals(name)) {
                return method;
            }
        }
        return null;
    }

    private static void compareTable(List<String> lines) {
        Set<String> rows = new TreeSet<>();
        for (String line : lines) {
            Matcher row = ROW.matcher(line);
            if (!row.matches()) {
                continue;
            }
            rows.add(row.group(1));
            Method method = callOf(row.group(1));
            int passed = row.group(2).isEmpty() ? 0 : row.group(2).split(", ").length;
            if (method == null || method.getParameterCount() != passed) {
                tell("the class has no such call: " + line);
            } else if (!row.group(3).strip().equals(thrownBy(method))) {
                tell("the class says that it throws " + thrownBy(method) + ": " + line);
            }
        }
        for (Method method : PartSplitter.class.getDeclaredMethods()) {
            if (Modifier.isPublic(method.getModifiers()) && !rows.contains(method.getName())) {
                tell("the table does not tell of " + method.getName());
            }
        }
    }

    private static String thrownBy(Method method) {
        List<String> names = new ArrayList<>();
        for (Class<?> type : method.getExceptionTypes()) {
            names.add("`" + type.getSimpleName() + "`");
        }
        return String.join(", ", names);
    }

    private static void compareNames(List<String> lines) throws IOException {
        Set<String> named = new TreeSet<>();
        Matcher names = NAMED_TEST.matcher(String.join("\n", lines));
        while (names.find()) {
            named.add(names.group(1));
        }
        Set<String> there = new TreeSet<>();
        try (var files = Files.newDirectoryStream(TESTS, "*.java")) {
            for (Path file : files) {
                there.add(file.getFileName().toString().replace(".java", ""));
            }
        }
        if (!named.equals(there)) {
            tell("names the tests " + named + ", there are " + there);
        }
    }

    private static void tell(String line) {
        wrong++;
        System.out.println("README.md: " + line);
    }
}
