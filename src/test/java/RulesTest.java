import java.io.IOException;
import java.lang.reflect.Field;
import java.lang.reflect.Modifier;
import java.nio.file.Files;
import java.nio.file.Path;
import java.util.ArrayList;
import java.util.List;
import java.util.Map;
import java.util.Set;
import java.util.TreeMap;
import java.util.TreeSet;
import java.util.regex.Matcher;
import java.util.regex.Pattern;

/**
 * The rules of LANGUAGE.md, by their numbers, that can be seen in the class's text or in its members. It is stricter
 * than they are: some of what they allow and the class does not use is refused too, and methods bear different names.
 */
public final class RulesTest {
    private static final Path CLASS = Path.of("src", "main", "java", "PartSplitter.java");
    private static final int MOST_PASSED = 7;
    private static final int MOST_LINES = 60;
    private static final int MOST_DEPTH = 8;
    private static final int MOST_CLASSES = 12;
    private static final int MOST_FIELDS = 20;

    private static final Pattern COMMENT = Pattern.compile("/\\*.*?\\*/|//[^\n]*", Pattern.DOTALL);
    private static final Pattern QUOTED = Pattern.compile("\"(?:[^\"\\\\\n]|\\\\.)*\"");
    private static final Pattern TOKEN = Pattern.compile("[A-Za-z_]\\w*|\\d\\w*|\"\"|->|::|\\S");
    private static final Pattern METHOD = Pattern.compile(
        "(?:(?:public|private|static|abstract|final) )*([\\w<>\\[\\]]+ )?(\\w+)\\(([^()]*)\\)(?: throws [\\w, ]+)? \\{");
    private static final Pattern THROWN = Pattern.compile("new (\\w+)\\((?:\"\")?\\);.*", Pattern.DOTALL);

    /** Words that the class does not need, each with the rule that shuts it out or says when it may be used. */
    private static final Map<String, Integer> REFUSED_WORDS = Map.ofEntries(Map.entry("package", 1),
        Map.entry("protected", 1), Map.entry("->", 2), Map.entry("::", 2), Map.entry("var", 3), Map.entry("float", 3),
        Map.entry("double", 3), Map.entry("import", 4), Map.entry("native", 4), Map.entry("volatile", 5),
        Map.entry("transient", 5), Map.entry("try", 6), Map.entry("catch", 6), Map.entry("finally", 6),
        Map.entry("synchronized", 6), Map.entry("assert", 6), Map.entry("instanceof", 6), Map.entry("equals", 6),
        Map.entry("hashCode", 6), Map.entry("toString", 6), Map.entry("getMessage", 6), Map.entry("nanoTime", 13),
        Map.entry("currentTimeMillis", 13), Map.entry("random", 13));

    /** Rules 3 and 4: names of the library that may be used; all others with a capital letter are the class's own. */
    private static final Set<String> LIBRARY = Set.of("String", "StringBuilder", "Integer", "Long", "Math", "ArrayList",
        "List", "Iterator", "Iterable", "Comparable", "System", "Arrays");

    private static final Set<String> EXCEPTIONS = Set.of("IllegalStateException", "IllegalArgumentException",
        "IndexOutOfBoundsException", "ArithmeticException", "UnsupportedOperationException", "NoSuchElementException",
        "RuntimeException");

    private static final Set<String> AHEAD_OF_BRACKET = Set.of("if", "for", "while", "switch", "return", "new", "catch");

    private static final Set<Class<?>> STATIC_TYPES = Set.of(int.class, long.class, boolean.class, char.class,
        String.class, int[].class, long[].class, char[].class, byte[].class);

    private static int wrong = 0;

    /** A method or a constructor, and the names that are called in it. */
    private static final class Piece {
        final Set<String> calls = new TreeSet<>();
        boolean isConstructor;
        boolean isThrowing;
    }

    public static void main(String[] args) throws IOException {
        String text = Files.readString(CLASS);
        for (int i = 0; i < text.length(); i++) {
            need(text.charAt(i) < 128, 4, "a sign above 127 stands at " + i);
        }
        String code = QUOTED.matcher(COMMENT.matcher(text).replaceAll("")).replaceAll("\"\"");
        Set<String> types = new TreeSet<>();
        List<Class<?>> classes = new ArrayList<>(List.of(PartSplitter.class));
        classes.addAll(List.of(PartSplitter.class.getDeclaredClasses()));
        for (Class<?> type : classes) {
            types.add(type.getSimpleName());
            lookAtFields(type);
        }
        need(classes.size() <= MOST_CLASSES, 11, "there are " + classes.size() + " classes");
        lookAtWords(code, types);
        lookAtThrows(code);
        lookAtMethods(code);
        if (wrong != 0) {
            System.exit(1);
        }
    }

    private static void lookAtFields(Class<?> type) {
        int fields = 0;
        for (Field field : type.getDeclaredFields()) {
            if (!Modifier.isStatic(field.getModifiers())) {
                fields++;
                continue;
            }
            need(Modifier.isFinal(field.getModifiers()), 5, "is not final: " + field);
            need(STATIC_TYPES.contains(field.getType()), 5, "is of a type that no constant has: " + field);
        }
        need(fields <= MOST_FIELDS, 11, type + " has " + fields + " fields");
        need(type.getDeclaredClasses().length == 0 || type == PartSplitter.class, 11, "has classes inside: " + type);
        need(type == PartSplitter.class || Modifier.isStatic(type.getModifiers()), 1, "is not static: " + type);
        need(type == PartSplitter.class || !Modifier.isPublic(type.getModifiers()), 1, "is public: " + type);
    }

    private static void lookAtWords(String code, Set<String> types) {
        Matcher tokens = TOKEN.matcher(code);
        String before = "";
        while (tokens.find()) {
            String word = tokens.group();
            need(!REFUSED_WORDS.containsKey(word), REFUSED_WORDS.getOrDefault(word, 0), "is refused: " + word);
            boolean isNameOfType = word.matches("[A-Z]\\w*[a-z]\\w*");
            need(!isNameOfType || types.contains(word) || LIBRARY.contains(word) || EXCEPTIONS.contains(word), 4,
                "is not in the library: " + word);
            boolean isJoin = word.equals("\"\"") && before.equals("+") || word.equals("+") && before.equals("\"\"");
            need(!isJoin, 10, "texts are joined by +");
            before = word;
        }
        need(!code.matches("(?s).*\\bstatic\\s*\\{.*"), 5, "there is a static initialiser block");
        need(!code.matches("(?s).*\\bMath\\s*\\.\\s*\\w+Exact\\b.*"), 4, "a function whose name ends in Exact is called");
    }

    private static void lookAtThrows(String code) {
        String[] pieces = code.split("\\bthrow\\b\\s*", -1);
        for (int i = 1; i < pieces.length; i++) {
            String behind = pieces[i];
            Matcher thrown = THROWN.matcher(behind);
            need(thrown.matches() && EXCEPTIONS.contains(thrown.group(1)), 6,
                "is thrown: " + behind.substring(0, Math.min(60, behind.length())));
        }
    }

    private static void lookAtMethods(String code) {
        Map<String, Piece> pieces = new TreeMap<>();
        Matcher heads = METHOD.matcher(code);
        while (heads.find()) {
            String name = heads.group(2);
            if (AHEAD_OF_BRACKET.contains(name) || heads.group(1) != null && heads.group(1).equals("else ")) {
                continue;
            }
            int passed = heads.group(3).isEmpty() ? 0 : heads.group(3).split(",").length;
            need(passed <= MOST_PASSED, 11, name + " takes " + passed + " parameters");
            String body = code.substring(heads.end(), endOf(code, heads.end()));
            need(body.chars().filter(sign -> sign == '\n').count() <= MOST_LINES, 11, name + " is too long");
            need(!pieces.containsKey(name), 11, "this test tells methods by their names, and two are named " + name);
            pieces.put(name, pieceOf(body, name.matches("[A-Z].*")));
        }
        need(pieces.size() > PartSplitter.class.getDeclaredMethods().length, 11, "methods were not found: " + pieces.size());
        for (Map.Entry<String, Piece> entry : pieces.entrySet()) {
            Piece piece = entry.getValue();
            need(!(piece.isConstructor && piece.isThrowing), 6, "a constructor throws: " + entry.getKey());
            for (String call : piece.calls) {
                need(!piece.isConstructor || !pieces.containsKey(call) || pieces.get(call).isConstructor, 12,
                    "a constructor calls " + call);
            }
            need(depthOf(entry.getKey(), pieces, List.of()) <= MOST_DEPTH, 11, "calls go too deep from " + entry.getKey());
        }
    }

    /** Behind the brace that closes what was opened ahead of a place. */
    private static int endOf(String code, int from) {
        int open = 1;
        int at = from;
        while (open > 0 && at < code.length()) {
            open += code.charAt(at) == '{' ? 1 : code.charAt(at) == '}' ? -1 : 0;
            at++;
        }
        return at;
    }

    private static Piece pieceOf(String body, boolean isConstructor) {
        Piece piece = new Piece();
        piece.isConstructor = isConstructor;
        piece.isThrowing = body.contains("throw ");
        Matcher calls = Pattern.compile("(\\w+)\\(").matcher(body);
        while (calls.find()) {
            piece.calls.add(calls.group(1));
        }
        return piece;
    }

    /** How deep calls go from a method, the method counted; what is open already is recursion and counts no more. */
    private static int depthOf(String name, Map<String, Piece> pieces, List<String> open) {
        if (!pieces.containsKey(name) || open.contains(name)) {
            return 0;
        }
        List<String> more = new ArrayList<>(open);
        more.add(name);
        int deepest = 0;
        for (String call : pieces.get(name).calls) {
            deepest = Math.max(deepest, depthOf(call, pieces, more));
        }
        return deepest + 1;
    }

    private static void need(boolean isKept, int rule, String line) {
        if (!isKept) {
            wrong++;
            System.out.println("rule " + rule + ": " + line);
        }
    }
}
