import java.io.IOException;
import java.lang.reflect.InvocationTargetException;
import java.lang.reflect.Method;
import java.nio.file.Files;
import java.nio.file.Path;
import java.util.ArrayList;
import java.util.List;
import java.util.Map;
import java.util.TreeMap;
import java.util.concurrent.Callable;

/**
 * Runs the tests of a class, which are its static methods that bear a Sentence, and compares their sentences with
 * the document: a test must quote words that stand there, and each line there must be quoted by a test.
 */
public class Sentences {
    protected static final Class<?> ARGUMENT = IllegalArgumentException.class;
    protected static final Class<?> STATE = IllegalStateException.class;
    protected static final Class<?> INDEX = IndexOutOfBoundsException.class;
    protected static final int NONE = -1;
    protected static final int LEAST = Integer.MIN_VALUE;
    protected static final int MOST = Integer.MAX_VALUE;

    private static final Path DOCUMENT = Path.of("..", "shared", "DOC.md");

    private static int wrong = 0;
    private static String heading = "";

    /** Names of tests as arguments run these alone, and leave the document out. */
    protected static void runAll(Class<?> tests, String[] names, String... sections) throws Exception {
        if (names.length == 0) {
            compareWithDocument(tests, List.of(sections));
        }
        int ran = runTests(tests, List.of(names));
        System.out.println(tests.getName() + ": " + ran + " tests of sentences, " + wrong + " answers not as due");
        if (wrong != 0 || ran == 0) {
            System.exit(1);
        }
    }

    /** Whether a test, by itself, finds something wrong. */
    public static boolean isFailing(Class<?> tests, String name) throws Exception {
        wrong = 0;
        runTests(tests, List.of(name));
        return wrong != 0;
    }

    private static int runTests(Class<?> tests, List<String> names) throws IllegalAccessException {
        int ran = 0;
        for (Method test : testsOf(tests).values()) {
            if (names.isEmpty() || names.contains(test.getName())) {
                run(test);
                ran++;
            }
        }
        return ran;
    }

    private static Map<String, Method> testsOf(Class<?> tests) {
        Map<String, Method> found = new TreeMap<>();
        for (Method method : tests.getDeclaredMethods()) {
            if (method.isAnnotationPresent(Sentence.class)) {
                method.setAccessible(true);
                found.put(method.getName(), method);
            }
        }
        return found;
    }

    private static void run(Method test) throws IllegalAccessException {
        Sentence sentence = test.getAnnotation(Sentence.class);
        heading = test.getName() + " (" + sentence.in() + ": \"" + sentence.says() + "\")";
        try {
            test.invoke(null);
        } catch (InvocationTargetException e) {
            tell("stopped by " + e.getCause());
        }
    }

    private static void compareWithDocument(Class<?> tests, List<String> sections) throws IOException {
        if (!Files.isRegularFile(DOCUMENT)) {
            return;
        }
        Map<String, List<String>> lines = linesBySection();
        for (Method test : testsOf(tests).values()) {
            Sentence sentence = test.getAnnotation(Sentence.class);
            heading = test.getName();
            if (!isQuoted(lines, sentence)) {
                tell("is not in the document: " + sentence.in() + ": \"" + sentence.says() + "\"");
            }
        }
        for (String section : sections) {
            heading = section;
            for (String line : lines.getOrDefault(section, List.of())) {
                if (!isLookedAfter(tests, section, line)) {
                    tell("has a line without a test: " + line);
                }
            }
        }
    }

    private static boolean isQuoted(Map<String, List<String>> lines, Sentence sentence) {
        for (String line : lines.getOrDefault(sentence.in(), List.of())) {
            if (line.contains(sentence.says())) {
                return true;
            }
        }
        return false;
    }

    private static boolean isLookedAfter(Class<?> tests, String section, String line) {
        for (Method test : testsOf(tests).values()) {
            Sentence sentence = test.getAnnotation(Sentence.class);
            if (sentence.in().equals(section) && line.contains(sentence.says())) {
                return true;
            }
        }
        return false;
    }

    /** The document's lines that say something; a section is named by what stands ahead of its heading's colon. */
    private static Map<String, List<String>> linesBySection() throws IOException {
        Map<String, List<String>> lines = new TreeMap<>();
        String section = "";
        boolean isCode = false;
        for (String line : Files.readAllLines(DOCUMENT)) {
            if (line.startsWith("```")) {
                isCode = !isCode;
            } else if (line.startsWith("#")) {
                section = line.replaceFirst("^#+ *", "").replaceFirst(":.*", "");
            } else if (!isCode && !line.isBlank() && !line.startsWith("Ahead of the calls ")) {
                lines.computeIfAbsent(section, name -> new ArrayList<>()).add(line);
            }
        }
        return lines;
    }

    protected static void due(String what, Object got, Object want) {
        if (!got.equals(want)) {
            tell(what + " answered " + got + ", due is " + want);
        }
    }

    protected static void dueThrow(String what, Class<?> type, Callable<?> call) {
        String got = answerOf(call);
        if (!got.equals(type.getName())) {
            tell(what + " answered " + got + ", due is " + type.getName());
        }
    }

    /** What a call answers, or the name of what it throws. */
    protected static String answerOf(Callable<?> call) {
        try {
            return String.valueOf(call.call());
        } catch (Exception e) {
            return e.getClass().getName();
        }
    }

    private static void tell(String line) {
        wrong++;
        System.out.println(heading + ": " + line);
    }
}
