import java.io.IOException;
import java.lang.reflect.Constructor;
import java.lang.reflect.Field;
import java.lang.reflect.Method;
import java.lang.reflect.Modifier;
import java.nio.file.Files;
import java.nio.file.Path;
import java.util.Set;
import java.util.TreeSet;

/** The face is the document's and no more, and the file keeps to what of LANGUAGE.md can be seen from outside. */
public final class FaceTest {
    private static final String BOUNDS = "IndexOutOfBoundsException";
    private static final String ARGUMENT = "IllegalArgumentException";
    private static final String BOTH = BOUNDS + "," + ARGUMENT;
    private static final String[] FACE = {
        "int feed(int,int,int,int,int)",
        "int routine(int) throws " + ARGUMENT + ",IllegalStateException",
        "int tie(int,int,int,int) throws " + BOTH,
        "int ties(int,int) throws " + BOTH,
        "int set(int,int) throws " + ARGUMENT,
        "int must(int,int,int) throws " + BOTH,
        "int fix(int,int) throws " + BOTH,
        "boolean hub(int) throws " + BOUNDS,
        "int room(int) throws " + BOUNDS,
        "int put(int,int) throws " + BOTH,
        "long cost()",
        "int better()",
        "long best()",
        "long border(int) throws " + BOUNDS,
        "int name(int) throws " + ARGUMENT,
        "int octet(int)",
        "int face(int,int) throws " + ARGUMENT,
        "int ring(int) throws " + ARGUMENT,
        "int change(int,int) throws " + ARGUMENT,
        "int alone()",
        "int keep()",
        "int moves()",
        "int count(int)",
    };
    private static final String[] NOT_IN_SOURCE = {
        "package ", "->", "::", "try ", "catch", "finally", "synchronized", "assert ", "static {",
        "double", "float", "System.out", "Random", "Thread", "Exact(", "hashCode", "toString", "protected ",
        "Long.MAX", "Integer.MAX", "Long.MIN", "Integer.MIN",
    };

    private static final Checks checks = new Checks("FaceTest");

    public static void main(String[] args) throws IOException {
        methods();
        restOfTheFace();
        names();
        source();
        checks.end();
    }

    private static void methods() {
        Set<String> due = new TreeSet<>();
        for (String line : FACE) {
            due.add("public " + line);
        }
        Set<String> found = new TreeSet<>();
        for (Method method : CodeRooms.class.getDeclaredMethods()) {
            if (!Modifier.isPrivate(method.getModifiers())) {
                found.add(method.toGenericString().replace("CodeRooms.", "").replace("java.lang.", ""));
            }
        }
        checks.same("methods", String.join("; ", found), String.join("; ", due));
    }

    private static void restOfTheFace() {
        checks.same("final", Modifier.toString(CodeRooms.class.getModifiers()), "public final");
        Constructor<?>[] constructors = CodeRooms.class.getDeclaredConstructors();
        checks.same("one constructor", constructors.length, 1);
        checks.same("the constructor", constructors[0].toGenericString(), "public CodeRooms()");
        for (Field field : CodeRooms.class.getDeclaredFields()) {
            if (!Modifier.isPrivate(field.getModifiers())) {
                checks.same("a field", field.toGenericString(), "public static final int CodeRooms.NONE");
            }
            if (Modifier.isStatic(field.getModifiers())) {
                checks.same("static is final: " + field, Modifier.isFinal(field.getModifiers()), true);
            }
        }
        Class<?>[] inside = CodeRooms.class.getDeclaredClasses();
        checks.same("classes of the file are twelve at most", inside.length + 1 <= 12, true);
        for (Class<?> one : inside) {
            checks.same("static: " + one, Modifier.isStatic(one.getModifiers()), true);
            checks.same("twenty fields at most: " + one, one.getDeclaredFields().length <= 20, true);
        }
    }

    private static void names() {
        Set<String> face = new TreeSet<>();
        for (Method method : CodeRooms.class.getDeclaredMethods()) {
            if (Modifier.isPublic(method.getModifiers())) {
                face.add(method.getName());
            }
        }
        for (Class<?> one : CodeRooms.class.getDeclaredClasses()) {
            for (Method method : one.getDeclaredMethods()) {
                checks.same("not a name of the face: " + method, face.contains(method.getName()), false);
                checks.same("seven parameters: " + method, method.getParameterCount() <= 7, true);
            }
        }
        for (Method method : CodeRooms.class.getDeclaredMethods()) {
            if (Modifier.isPrivate(method.getModifiers())) {
                checks.same("not a name of the face: " + method, face.contains(method.getName()), false);
            }
        }
    }

    private static void source() throws IOException {
        String text = Files.readString(Path.of("src/main/java/CodeRooms.java"));
        for (String part : NOT_IN_SOURCE) {
            checks.same("not in the source: " + part, text.contains(part), false);
        }
        for (String line : text.split("\n")) {
            if (line.startsWith("import ")) {
                checks.same("an import", line.matches("import java\\.util\\.(ArrayList|List);"), true);
            }
        }
        checks.same("signs of the source are 1 to 127", text.matches("(?s)[\\x01-\\x7f]*"), true);
    }
}
