import java.io.ByteArrayOutputStream;
import java.io.IOException;
import java.io.PrintStream;
import java.lang.reflect.Method;
import java.net.URL;
import java.net.URLClassLoader;
import java.nio.file.Files;
import java.nio.file.Path;
import java.util.ArrayList;
import java.util.List;
import java.util.Map;
import java.util.Set;
import java.util.TreeMap;
import java.util.TreeSet;
import java.util.concurrent.Callable;
import java.util.concurrent.ExecutionException;
import java.util.concurrent.ExecutorService;
import java.util.concurrent.Executors;
import java.util.concurrent.TimeUnit;
import java.util.concurrent.TimeoutException;
import javax.tools.ToolProvider;

/**
 * Breaks the class in one place after the other, as breaks.txt says, and looks whether the tests that are named
 * there fail by it. Each test of a sentence must be named by a break at least once.
 */
public final class Breaks {
    private static final Path CLASS = Path.of("src/main/java/PartSplitter.java");
    private static final Path LIST = Path.of("src/test/breaks/breaks.txt");
    private static final Path SUPPORT = Path.of("src/test/support");
    private static final Path TESTS = Path.of("src/test/java");
    private static final int MOST_SECONDS = 20;

    private static final Map<String, String> classOfTest = new TreeMap<>();
    private static final Set<String> named = new TreeSet<>();
    private static final ExecutorService RUNNER = Executors.newCachedThreadPool();
    private static int wrong = 0;

    /** A break: pairs of what stands in the class and what takes its place, and the tests that must see it. */
    private static final class Break {
        final List<String> pairs = new ArrayList<>();
        final List<String> seenBy = new ArrayList<>();
    }

    public static void main(String[] args) throws Exception {
        Path out = Files.createTempDirectory("breaks");
        Path tests = Files.createDirectory(out.resolve("tests"));
        compileTests(tests);
        List<Break> breaks = readBreaks();
        int number = 0;
        for (Break each : breaks) {
            number++;
            Path broken = Files.createDirectory(out.resolve("broken" + number));
            if (compileBroken(each, broken)) {
                runBroken(each, broken, tests);
            }
        }
        for (String test : classOfTest.keySet()) {
            if (!named.contains(test)) {
                tell("no break is seen by " + test);
            }
        }
        System.out.println(breaks.size() + " breaks, " + classOfTest.size() + " tests, " + wrong + " not as due");
        System.exit(wrong == 0 ? 0 : 1);
    }

    private static void compileTests(Path tests) throws Exception {
        List<String> names = new ArrayList<>();
        try (var files = Files.newDirectoryStream(TESTS, "*BoundariesTest.java")) {
            for (Path file : files) {
                names.add(file.getFileName().toString().replace(".java", ""));
            }
        }
        for (String name : names) {
            if (!compile(tests, CLASS, TESTS.resolve(name + ".java"))) {
                throw new IOException("does not compile: " + name);
            }
            findTests(name, tests);
        }
        for (String file : new String[] {"PartSplitter"}) {
            try (var classes = Files.newDirectoryStream(tests, file + "*.class")) {
                for (Path each : classes) {
                    Files.delete(each);
                }
            }
        }
    }

    private static void findTests(String name, Path tests) throws Exception {
        try (URLClassLoader loader = loader(tests)) {
            for (Method method : loader.loadClass(name).getDeclaredMethods()) {
                if (method.getAnnotations().length > 0) {
                    classOfTest.put(method.getName(), name);
                }
            }
        }
    }

    private static List<Break> readBreaks() throws IOException {
        List<Break> breaks = new ArrayList<>();
        for (String block : Files.readString(LIST).split("(?m)^----.*\n")) {
            Break each = new Break();
            for (String piece : block.split("(?m)^(?=break: |to: |seen by: )")) {
                String text = piece.substring(piece.indexOf(": ") + 2).stripTrailing();
                if (piece.startsWith("break: ") || piece.startsWith("to: ")) {
                    each.pairs.add(text);
                } else if (piece.startsWith("seen by: ")) {
                    each.seenBy.addAll(List.of(text.split("\\s+")));
                }
            }
            if (!each.pairs.isEmpty()) {
                breaks.add(each);
            }
        }
        return breaks;
    }

    private static boolean compileBroken(Break each, Path broken) throws IOException {
        String text = Files.readString(CLASS);
        for (int i = 0; i + 1 < each.pairs.size(); i += 2) {
            String old = each.pairs.get(i);
            int at = text.indexOf(old);
            if (at < 0 || text.indexOf(old, at + 1) >= 0) {
                tell("stands not once in the class: " + old);
                return false;
            }
            text = text.replace(old, each.pairs.get(i + 1));
        }
        Path file = broken.resolve("PartSplitter.java");
        Files.writeString(file, text);
        if (!compile(broken, file)) {
            tell("does not compile: " + each.pairs);
            return false;
        }
        return true;
    }

    private static void runBroken(Break each, Path broken, Path tests) throws Exception {
        for (String name : each.seenBy) {
            named.add(name);
            String type = classOfTest.get(name);
            if (type == null) {
                tell("there is no test " + name);
            } else if (!isFailing(type, name, broken, tests)) {
                tell(name + " does not see: " + each.pairs);
            }
        }
    }

    /** A test that does not end fails as well. */
    private static boolean isFailing(String type, String name, Path broken, Path tests) throws Exception {
        PrintStream console = System.out;
        System.setOut(new PrintStream(new ByteArrayOutputStream()));
        try (URLClassLoader loader = loader(broken, tests)) {
            Callable<Object> run = () -> loader.loadClass("Sentences").getMethod("isFailing", Class.class, String.class)
                .invoke(null, loader.loadClass(type), name);
            return (Boolean) RUNNER.submit(run).get(MOST_SECONDS, TimeUnit.SECONDS);
        } catch (TimeoutException | ExecutionException e) {
            return true;
        } finally {
            System.setOut(console);
        }
    }

    private static URLClassLoader loader(Path... directories) throws IOException {
        URL[] places = new URL[directories.length];
        for (int i = 0; i < places.length; i++) {
            places[i] = directories[i].toUri().toURL();
        }
        return new URLClassLoader(places, ClassLoader.getPlatformClassLoader());
    }

    private static boolean compile(Path out, Path... files) {
        List<String> words = new ArrayList<>(List.of("-encoding", "UTF-8", "-nowarn", "-sourcepath", SUPPORT.toString(),
            "-d", out.toString()));
        for (Path file : files) {
            words.add(file.toString());
        }
        return ToolProvider.getSystemJavaCompiler().run(null, null, null, words.toArray(new String[0])) == 0;
    }

    private static void tell(String line) {
        wrong++;
        System.out.println(line);
    }
}
