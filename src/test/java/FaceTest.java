import java.io.IOException;
import java.lang.reflect.Constructor;
import java.lang.reflect.Field;
import java.lang.reflect.Method;
import java.lang.reflect.Modifier;
import java.nio.file.Files;
import java.nio.file.Path;
import java.util.Arrays;
import java.util.Set;
import java.util.TreeSet;

/** The public face of the document, and those rules of LANGUAGE.md that can be seen from outside. */
public final class FaceTest {
    private static final String[] FACE = {
        "int group(int, int)", "int task(int)", "int weight(int, int)", "int most(int, int, int)",
        "int cellsOf(int, int, int, int)", "int freeze(int, boolean)", "int move(int, int)",
        "int work(int, int)", "int worth(int, int)", "int run(int)", "int who(int)",
        "int ask(int, int, boolean)", "int free(int, int, boolean)", "int back(int)", "int touch(int)",
        "int look(int, int)", "int about(int, int)", "long vtime(int)", "int pressed(int, boolean, int)",
        "int gone(int, int)", "int done(int)", "long even(int)", "int plan(int, int)", "int image()",
        "int restore()", "int count(int)", "int keep(int, int, int)", "int make(int, int, int)",
        "long element(int, int)", "int copy(int, int, int, int, int)", "int heft(int)", "int toss(int)"};
    private static final String[] FORBIDDEN = {
        "import ", "->", "::", "finally", "synchronized", "assert ", "System.", "Exact(", "Throwable",
        "catch (Exception", "catch (RuntimeException", "NullPointer", "IndexOutOfBounds", "ClassCast",
        "NegativeArray", "ArrayStore", "ArithmeticException", "protected ", "double", "float", "while"};
    private static final Checks CHECKS = new Checks("FaceTest");

    public static void main(String[] args) throws IOException {
        methods();
        constructorsAndFields();
        source();
        CHECKS.end();
    }

    private static void methods() {
        Set<String> due = new TreeSet<>(Arrays.asList(FACE));
        Set<String> names = new TreeSet<>();
        for (String method : FACE) {
            names.add(method.substring(method.indexOf(' ') + 1, method.indexOf('(')));
        }
        for (Method method : ShareKeeper.class.getDeclaredMethods()) {
            StringBuilder text = new StringBuilder(method.getReturnType().getName());
            text.append(' ').append(method.getName()).append('(');
            for (int i = 0; i < method.getParameterCount(); i++) {
                text.append(i == 0 ? "" : ", ").append(method.getParameterTypes()[i].getName());
            }
            text.append(')');
            if (Modifier.isPublic(method.getModifiers())) {
                CHECKS.due("is of the face: " + text, due.remove(text.toString()) ? 1 : 0, 1);
            } else {
                CHECKS.due("private: " + text, Modifier.isPrivate(method.getModifiers()) ? 1 : 0, 1);
                CHECKS.due("own name: " + text, names.contains(method.getName()) ? 1 : 0, 0);
            }
        }
        CHECKS.due("missing: " + due, due.size(), 0);
    }

    private static void constructorsAndFields() {
        Constructor<?>[] constructors = ShareKeeper.class.getDeclaredConstructors();
        CHECKS.due("constructors", constructors.length, 1);
        CHECKS.due("of three ints", Arrays.equals(constructors[0].getParameterTypes(),
            new Class<?>[] {int.class, int.class, int.class}) ? 1 : 0, 1);
        CHECKS.due("public", Modifier.isPublic(constructors[0].getModifiers()) ? 1 : 0, 1);
        CHECKS.due("final class", Modifier.isFinal(ShareKeeper.class.getModifiers()) ? 1 : 0, 1);
        for (Field field : ShareKeeper.class.getDeclaredFields()) {
            int modifiers = field.getModifiers();
            CHECKS.due("private: " + field, Modifier.isPrivate(modifiers) ? 1 : 0, 1);
            CHECKS.due("static but not final: " + field,
                Modifier.isStatic(modifiers) && !Modifier.isFinal(modifiers) ? 1 : 0, 0);
        }
        int classes = ShareKeeper.class.getDeclaredClasses().length + 1;
        CHECKS.due("at most twelve classes, there are " + classes, classes <= 12 ? 1 : 0, 1);
        for (Class<?> inner : ShareKeeper.class.getDeclaredClasses()) {
            CHECKS.due("static: " + inner, Modifier.isStatic(inner.getModifiers()) ? 1 : 0, 1);
            CHECKS.due("not public: " + inner, Modifier.isPublic(inner.getModifiers()) ? 1 : 0, 0);
            long fields = Arrays.stream(inner.getDeclaredFields())
                .filter(f -> !Modifier.isStatic(f.getModifiers())).count();
            CHECKS.due("at most twenty fields: " + inner, fields <= 20 ? 1 : 0, 1);
        }
    }

    private static void source() throws IOException {
        int number = 0;
        for (String line : Files.readAllLines(Path.of("src/main/java/ShareKeeper.java"))) {
            number++;
            String trimmed = line.trim();
            boolean comment = trimmed.startsWith("*") || trimmed.startsWith("/");
            for (String word : FORBIDDEN) {
                CHECKS.due("line " + number + " has " + word, !comment && line.contains(word) ? 1 : 0, 0);
            }
            CHECKS.due("line " + number + " is plain", line.chars().allMatch(c -> c < 128) ? 1 : 0, 1);
        }
    }
}
