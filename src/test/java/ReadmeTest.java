import java.io.IOException;
import java.lang.reflect.InvocationTargetException;
import java.lang.reflect.Method;
import java.lang.reflect.Modifier;
import java.nio.file.DirectoryStream;
import java.nio.file.Files;
import java.nio.file.Path;
import java.util.HashMap;
import java.util.List;
import java.util.Map;
import java.util.regex.Matcher;
import java.util.regex.Pattern;

/**
 * README.md against the class: its example, the values of its times, and that each method and each
 * test has a line; what a method's line says is for a reader to see.
 */
public final class ReadmeTest {
    private static final Pattern MADE = Pattern.compile(
            "BankScheduler memory = new BankScheduler\\((\\d+), (\\d+), (\\d+)\\);.*");
    private static final Pattern CALL = Pattern.compile(
            "(?:int (\\w+) = )?memory\\.(\\w+)\\(([^)]*)\\); +// (throws \\w+|-?\\d+): .*");
    private static final Pattern TIME = Pattern.compile(
            "\\| (\\d+) \\| .+ \\| (\\d+) \\| (\\d+) \\.\\. (\\d+) \\|");
    private static final int TIMES = 12;
    private static final Due DUE = new Due("ReadmeTest");

    private final BankScheduler memory;
    private final Map<String, Integer> named = new HashMap<>();

    private ReadmeTest(BankScheduler memory) {
        this.memory = memory;
    }

    public static void main(String[] args) throws IOException, IllegalAccessException {
        List<String> lines = Files.readAllLines(Path.of("README.md"));
        example(lines);
        times(lines);
        methods(lines);
        tests(lines);
        DUE.end();
    }

    private static void example(List<String> lines) throws IllegalAccessException {
        ReadmeTest made = null;
        for (String line : lines) {
            Matcher making = MADE.matcher(line);
            if (making.matches()) {
                made = new ReadmeTest(new BankScheduler(number(making.group(1)),
                        number(making.group(2)), number(making.group(3))));
            } else if (line.contains("memory.")) {
                Matcher call = CALL.matcher(line);
                boolean told = made != null && call.matches();
                DUE.holds("an answer in '" + line + "'", told);
                if (told) {
                    made.call(line, call);
                }
            }
        }
        DUE.holds("there is an example", made != null && !made.named.isEmpty());
    }

    private void call(String line, Matcher call) throws IllegalAccessException {
        String got = outcome(methodOf(call.group(2)), argumentsOf(call.group(3)));
        DUE.holds("'" + line + "', which answered " + got + ",", got.equals(call.group(4)));
        if (call.group(1) != null) {
            named.put(call.group(1), number(got));
        }
    }

    private static Method methodOf(String name) {
        for (Method method : BankScheduler.class.getDeclaredMethods()) {
            if (method.getName().equals(name)) {
                return method;
            }
        }
        throw new IllegalStateException("no method " + name);
    }

    private Object[] argumentsOf(String text) {
        String[] parts = text.isEmpty() ? new String[0] : text.split(", ");
        Object[] arguments = new Object[parts.length];
        for (int i = 0; i < parts.length; i++) {
            arguments[i] = named.containsKey(parts[i]) ? named.get(parts[i]) : number(parts[i]);
        }
        return arguments;
    }

    private String outcome(Method method, Object[] arguments) throws IllegalAccessException {
        try {
            return method.invoke(memory, arguments).toString();
        } catch (InvocationTargetException thrown) {
            return "throws " + thrown.getCause().getClass().getSimpleName();
        }
    }

    private static void times(List<String> lines) {
        int told = 0;
        for (String line : lines) {
            Matcher time = TIME.matcher(line);
            if (time.matches()) {
                DUE.answer("the times in their order", number(time.group(1)), told);
                timeIs(told, number(time.group(2)), number(time.group(3)), number(time.group(4)));
                told++;
            }
        }
        DUE.answer("times in the table", told, TIMES);
    }

    private static void timeIs(int which, int first, int least, int most) {
        BankScheduler x = new BankScheduler(1, 1, 1);
        String what = "time " + which;
        DUE.answer(what + " at first", x.time(which, least), first);
        DUE.answer(what + " at least", x.time(which, most), least);
        DUE.answer(what + " at most", x.time(which, most), most);
        DUE.refused(what + " below", Due.ARGUMENT, () -> x.time(which, least - 1));
        DUE.refused(what + " above", Due.ARGUMENT, () -> x.time(which, most + 1));
    }

    private static void methods(List<String> lines) {
        for (Method method : BankScheduler.class.getDeclaredMethods()) {
            if (Modifier.isPublic(method.getModifiers())) {
                String start = "| `" + method.getName() + "(";
                DUE.answer("rows of " + method, startingWith(lines, start), 1);
            }
        }
    }

    private static void tests(List<String> lines) throws IOException {
        try (DirectoryStream<Path> files =
                Files.newDirectoryStream(Path.of("src/test/java"), "*Test.java")) {
            for (Path file : files) {
                String name = file.getFileName().toString().replace(".java", "");
                DUE.answer(name + " in the list", startingWith(lines, "- `" + name + "`: "), 1);
            }
        }
    }

    private static int startingWith(List<String> lines, String start) {
        int found = 0;
        for (String line : lines) {
            if (line.startsWith(start)) {
                found++;
            }
        }
        return found;
    }

    private static int number(String text) {
        return Integer.parseInt(text);
    }
}
