import java.io.IOException;
import java.lang.reflect.Constructor;
import java.lang.reflect.Field;
import java.lang.reflect.Method;
import java.lang.reflect.Modifier;
import java.nio.file.Files;
import java.nio.file.Path;
import java.util.ArrayList;
import java.util.List;
import java.util.Set;
import java.util.TreeSet;

/** The public face: every constant, constructor and method of the document, and nothing else that is not private. */
public final class FaceTest {
    private static final Path DOCUMENT = Path.of("..", "shared", "DOC.md");
    private static final Path CLASS = Path.of("src", "main", "java", "PartSplitter.java");

    private static final String[] FACE = {
        "public static final int NONE",
        "public PartSplitter()",
        "public int addPart(int,int,int) throws IllegalArgumentException,IllegalStateException",
        "public int setFlags(int,int) throws IndexOutOfBoundsException,IllegalArgumentException",
        "public int addLink(int) throws IllegalArgumentException,IllegalStateException",
        "public boolean veto(int,int,boolean) throws IndexOutOfBoundsException",
        "public boolean bar(int,int,boolean) throws IndexOutOfBoundsException",
        "public int parts()",
        "public int count(int) throws IndexOutOfBoundsException",
        "public int costOf(int) throws IndexOutOfBoundsException",
        "public int find(int) throws IllegalArgumentException",
        "public int nodes()",
        "public int splits(int) throws IllegalArgumentException",
        "public int cost(int,int) throws IllegalArgumentException",
        "public int size(int,int) throws IllegalArgumentException",
        "public int partAt(int,int,int) throws IllegalArgumentException",
        "public int head(int) throws IllegalArgumentException",
        "public int readings(int) throws IllegalArgumentException",
        "public boolean learn(int) throws IllegalArgumentException,IllegalStateException",
        "public int forget() throws IllegalStateException",
        "public int learned()",
    };

    public static void main(String[] args) throws IOException {
        Set<String> due = new TreeSet<>(List.of(FACE));
        Set<String> got = new TreeSet<>(openMembers(PartSplitter.class));
        List<String> wrong = new ArrayList<>();
        for (String member : due) {
            if (!got.contains(member)) {
                wrong.add("missing: " + member);
            }
        }
        for (String member : got) {
            if (!due.contains(member)) {
                wrong.add("not in the document: " + member);
            }
        }
        if (!Modifier.isFinal(PartSplitter.class.getModifiers())) {
            wrong.add("the class is not final");
        }
        addClashes(wrong);
        addMissingLines(wrong);
        if (PartSplitter.NONE != -1) {
            wrong.add("NONE is not -1");
        }
        for (String line : wrong) {
            System.out.println(line);
        }
        if (!wrong.isEmpty()) {
            System.exit(1);
        }
    }

    private static List<String> openMembers(Class<?> type) {
        List<String> members = new ArrayList<>();
        for (Field field : type.getDeclaredFields()) {
            if (!Modifier.isPrivate(field.getModifiers())) {
                members.add(plain(field.toGenericString()));
            }
        }
        for (Constructor<?> constructor : type.getDeclaredConstructors()) {
            members.add(plain(constructor.toGenericString()));
        }
        for (Method method : type.getDeclaredMethods()) {
            if (!Modifier.isPrivate(method.getModifiers())) {
                members.add(plain(method.toGenericString()));
            }
        }
        return members;
    }

    private static String plain(String text) {
        return text.replace("java.lang.", "").replace("PartSplitter.", "");
    }

    private static void addClashes(List<String> wrong) {
        Set<String> open = new TreeSet<>();
        for (Method method : PartSplitter.class.getDeclaredMethods()) {
            if (Modifier.isPublic(method.getModifiers())) {
                open.add(method.getName());
            }
        }
        List<Class<?>> types = new ArrayList<>(List.of(PartSplitter.class.getDeclaredClasses()));
        for (Class<?> type : types) {
            if (!Modifier.isStatic(type.getModifiers())) {
                wrong.add("not static: " + type);
            }
        }
        types.add(PartSplitter.class);
        for (Class<?> type : types) {
            for (Method method : type.getDeclaredMethods()) {
                if (!Modifier.isPublic(method.getModifiers()) && open.contains(method.getName())) {
                    wrong.add("bears the name of a public method: " + method);
                }
            }
        }
    }

    /** The document's face, line by line with the names of what is passed, must stand in the class in its order. */
    private static void addMissingLines(List<String> wrong) throws IOException {
        if (!Files.isRegularFile(DOCUMENT)) {
            return;
        }
        List<String> lines = linesOfFace();
        if (lines.size() != FACE.length + 1) {
            wrong.add("the document's face has " + lines.size() + " lines");
        }
        String text = Files.readString(CLASS);
        int from = 0;
        for (String line : lines) {
            String declared = line.contains("=") ? line : line.replaceFirst(";$", "") + " {";
            int at = text.indexOf(declared, from);
            if (at < 0) {
                wrong.add("does not stand in the class, or not in the document's order: " + line);
            } else {
                from = at + declared.length();
            }
        }
    }

    private static List<String> linesOfFace() throws IOException {
        List<String> lines = new ArrayList<>();
        boolean isFace = false;
        for (String line : Files.readAllLines(DOCUMENT)) {
            if (line.startsWith("```")) {
                isFace = line.equals("```java");
            } else if (isFace && !line.equals("}")) {
                lines.add(line.strip().replaceFirst(" *\\{$", ""));
            }
        }
        return lines;
    }
}
