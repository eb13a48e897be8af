import java.io.IOException;
import java.lang.reflect.Field;
import java.lang.reflect.Method;
import java.lang.reflect.Modifier;
import java.nio.file.Files;
import java.nio.file.Path;
import java.util.Arrays;
import java.util.List;
import java.util.TreeSet;

/** The face of the class, and the rules of LANGUAGE.md that can be seen by a program. */
public final class FaceTest {
    private static final List<String> FACE = List.of(
            "time(int, int) IndexOutOfBoundsException IllegalArgumentException IllegalStateException",
            "read(int, int, int) IndexOutOfBoundsException IllegalStateException",
            "write(int, int, int, int) IndexOutOfBoundsException IllegalStateException",
            "tick()",
            "run(int) IllegalArgumentException",
            "result(int) UnsupportedOperationException IllegalStateException",
            "word(int, int, int) IndexOutOfBoundsException",
            "open(int) IndexOutOfBoundsException",
            "waiting(int) IndexOutOfBoundsException",
            "figure(int) IllegalArgumentException",
            "check(int, int, int) IndexOutOfBoundsException",
            "pause(int) IllegalArgumentException");
    private static final List<String> NOT_IN_SOURCE = List.of(
            "import ", "package ", "->", "::", "finally", "synchronized", "assert ", "static {",
            "Exact(", "Integer.", "System.out", "equals(", "hashCode(", "toString(");
    private static final Due DUE = new Due("FaceTest");

    public static void main(String[] args) throws IOException {
        faceIsTheDocuments();
        nothingElseIsSeen();
        classesInside();
        source();
        DUE.end();
    }

    private static String told(Method method) {
        StringBuilder text = new StringBuilder(method.getName()).append('(');
        for (Class<?> type : method.getParameterTypes()) {
            text.append(text.charAt(text.length() - 1) == '(' ? "" : ", ").append(type.getName());
        }
        text.append(')');
        for (Class<?> thrown : method.getExceptionTypes()) {
            text.append(' ').append(thrown.getSimpleName());
        }
        return text.toString();
    }

    private static void faceIsTheDocuments() {
        TreeSet<String> seen = new TreeSet<>();
        for (Method method : BankScheduler.class.getDeclaredMethods()) {
            if (Modifier.isPublic(method.getModifiers())) {
                seen.add(told(method));
                DUE.holds(method + " answers an int", method.getReturnType() == int.class);
                DUE.holds(method + " is of an object", !Modifier.isStatic(method.getModifiers()));
            }
        }
        DUE.holds("the face " + seen, seen.equals(new TreeSet<>(FACE)));
        int modifiers = BankScheduler.class.getModifiers();
        DUE.holds("public and final", Modifier.isPublic(modifiers) && Modifier.isFinal(modifiers));
        DUE.answer("constructors", BankScheduler.class.getDeclaredConstructors().length, 1);
        DUE.answer("with three ints", BankScheduler.class.getConstructors()[0].getParameterCount(), 3);
    }

    private static void nothingElseIsSeen() {
        TreeSet<String> publicNames = new TreeSet<>();
        for (Method method : BankScheduler.class.getMethods()) {
            publicNames.add(method.getName());
        }
        for (Method method : BankScheduler.class.getDeclaredMethods()) {
            if (!Modifier.isPublic(method.getModifiers())) {
                DUE.holds(method + " is private", Modifier.isPrivate(method.getModifiers()));
                DUE.holds(method + " has a name of its own", !publicNames.contains(method.getName()));
            }
        }
        for (Field field : BankScheduler.class.getDeclaredFields()) {
            DUE.holds(field + " is private", Modifier.isPrivate(field.getModifiers()));
        }
    }

    private static void classesInside() {
        Class<?>[] inside = BankScheduler.class.getDeclaredClasses();
        DUE.holds("at most twelve classes", inside.length < 12);
        for (Class<?> each : inside) {
            DUE.holds(each + " is static", Modifier.isStatic(each.getModifiers()));
            DUE.holds(each + " is not public", !Modifier.isPublic(each.getModifiers()));
        }
        TreeSet<Class<?>> all = new TreeSet<>((a, b) -> a.getName().compareTo(b.getName()));
        all.addAll(Arrays.asList(inside));
        all.add(BankScheduler.class);
        for (Class<?> each : all) {
            for (Field field : each.getDeclaredFields()) {
                int modifiers = field.getModifiers();
                DUE.holds(field + " is final if static",
                        !Modifier.isStatic(modifiers) || Modifier.isFinal(modifiers));
            }
            for (Method method : each.getDeclaredMethods()) {
                DUE.holds(method + " takes at most seven", method.getParameterCount() <= 7);
            }
        }
    }

    private static void source() throws IOException {
        String text = Files.readString(Path.of("src/main/java/BankScheduler.java"));
        for (String word : NOT_IN_SOURCE) {
            DUE.holds("no '" + word + "' in the source", !text.contains(word));
        }
        for (int i = 0; i < text.length(); i++) {
            if (text.charAt(i) > 126) {
                DUE.holds("plain characters in the source", false);
            }
        }
    }
}
