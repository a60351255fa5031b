import java.io.IOException;
import java.lang.reflect.Constructor;
import java.lang.reflect.Field;
import java.lang.reflect.Method;
import java.lang.reflect.Modifier;
import java.nio.file.Files;
import java.nio.file.Path;
import java.util.Arrays;
import java.util.Map;
import java.util.TreeSet;

/** The public face, and those rules of LANGUAGE.md that the source's own words can break. */
final class FaceTest {
    private static final Path SOURCE = Path.of("src/main/java/BlockPrograms.java");
    private static final String[] FACE = {
        "at(int) int", "back(int) int", "become(int, int) int", "block(int) int", "failed(int) int",
        "failure(int, int) int", "hand(int, boolean, int) boolean", "numbers(int, int, int) void",
        "order() int", "out(int) int", "point(int, int) int", "row(int, int, int) int",
        "run(int) int", "safe(int, int) int", "save() int", "state(int, int) int",
        "wire(int, int, int) int"
    };
    /** What rules 3, 4 and 6 leave out, as it would stand in the source. */
    private static final String[] RULED_OUT = {
        "import ", "package ", "->", "::", "synchronized", "assert ", "finally", "catch", "System.out",
        "double", "float", "static {", "equals(", "hashCode(", "toString("
    };

    private FaceTest() {
    }

    static void run() {
        theFaceIsTheDocuments();
        theSourceKeepsToTheLanguage();
    }

    private static void theFaceIsTheDocuments() {
        Class<?> type = BlockPrograms.class;
        Check.same("NONE", -1, BlockPrograms.NONE);
        Check.same("the class is public and final", Modifier.PUBLIC | Modifier.FINAL,
            type.getModifiers() & (Modifier.PUBLIC | Modifier.FINAL));
        TreeSet<String> open = new TreeSet<>();
        TreeSet<String> closed = new TreeSet<>();
        for (Method method : type.getDeclaredMethods()) {
            if (Modifier.isPrivate(method.getModifiers())) {
                closed.add(method.getName());
            } else {
                open.add(signature(method));
            }
        }
        Check.same("methods", Arrays.asList(FACE).toString(), open.toString());
        for (String signature : FACE) {
            String name = signature.substring(0, signature.indexOf('('));
            Check.same("a private method named " + name, false, closed.contains(name));
        }
        for (Field field : type.getDeclaredFields()) {
            boolean isNone = field.getName().equals("NONE");
            Check.same(field.getName() + " is private", !isNone, Modifier.isPrivate(field.getModifiers()));
        }
        Constructor<?>[] constructors = type.getDeclaredConstructors();
        Check.same("constructors", 1, constructors.length);
        Check.same("the constructor's parameters", 0, constructors[0].getParameterCount());
        Check.same("the constructor is public", true, Modifier.isPublic(constructors[0].getModifiers()));
        Check.same("declared exceptions", declaredByDocument().toString(), declared(type).toString());
    }

    private static String signature(Method method) {
        StringBuilder text = new StringBuilder(method.getName()).append('(');
        for (Class<?> parameter : method.getParameterTypes()) {
            text.append(text.charAt(text.length() - 1) == '(' ? "" : ", ").append(parameter.getName());
        }
        return text.append(") ").append(method.getReturnType().getName()).toString();
    }

    private static TreeSet<String> declaredByDocument() {
        Map<String, String> unusual = Map.of(
            "block", "IA IS", "row", "IA IS", "run", "IA IS", "order", "", "save", "IS");
        TreeSet<String> due = new TreeSet<>();
        for (String signature : FACE) {
            String name = signature.substring(0, signature.indexOf('('));
            due.add((name + " " + unusual.getOrDefault(name, "IA")).trim());
        }
        return due;
    }

    private static TreeSet<String> declared(Class<?> type) {
        TreeSet<String> got = new TreeSet<>();
        for (Method method : type.getMethods()) {
            if (method.getDeclaringClass() == type) {
                StringBuilder text = new StringBuilder(method.getName());
                for (Class<?> thrown : method.getExceptionTypes()) {
                    text.append(thrown == IllegalArgumentException.class ? " IA"
                        : thrown == IllegalStateException.class ? " IS" : " other");
                }
                got.add(text.toString());
            }
        }
        return got;
    }

    private static void theSourceKeepsToTheLanguage() {
        String source;
        try {
            source = Files.readString(SOURCE);
        } catch (IOException e) {
            source = "import of nothing: " + SOURCE + " cannot be read";
        }
        for (String word : RULED_OUT) {
            Check.same("the source has '" + word + "'", false, source.contains(word));
        }
    }
}
