import java.io.IOException;
import java.lang.reflect.Field;
import java.lang.reflect.Method;
import java.lang.reflect.Modifier;
import java.nio.file.Files;
import java.nio.file.Path;
import java.util.HashMap;
import java.util.List;
import java.util.Map;
import java.util.Set;
import java.util.TreeSet;
import java.util.regex.Matcher;
import java.util.regex.Pattern;
import java.util.stream.Collectors;
import java.util.stream.Stream;

/** What README.md shows of calls and answers is what the class answers. */
public final class ReadmeTest {
    private static final Pattern CALL =
        Pattern.compile("x\\.(\\w+)\\(([^)]*)\\);\\s+// (-?\\d+|[A-Z]+)(: .+)?");
    private static final Pattern CONSTANT =
        Pattern.compile("\\| `([A-Z]+)` \\| (-?\\d+) \\| .+ \\|");
    private static final Pattern TEST = Pattern.compile("\\| (\\w+Test) \\| .+ \\|");

    private static final Map<String, Integer> constants = new HashMap<>();
    private static final Map<String, Method> calls = new HashMap<>();

    private ReadmeTest() {
    }

    public static void main(String[] args) throws IOException, ReflectiveOperationException {
        List<String> page = Files.readAllLines(Path.of("README.md"));
        for (Field f : DeadAir.class.getFields()) {
            constants.put(f.getName(), f.getInt(null));
        }
        for (Method m : DeadAir.class.getDeclaredMethods()) {
            if (Modifier.isPublic(m.getModifiers())) {
                calls.put(m.getName(), m);
            }
        }
        answersAreShown(page);
        constantsAreShown(page);
        testsAreShown(page);
        Due.end();
    }

    private static void answersAreShown(List<String> page) throws ReflectiveOperationException {
        Set<String> shown = new TreeSet<>();
        boolean isJava = false;
        DeadAir x = null;
        for (int i = 0; i < page.size(); i++) {
            String line = page.get(i);
            if (line.startsWith("```")) {
                isJava = line.equals("```java");
                x = null;
            } else if (isJava && line.equals("DeadAir x = new DeadAir();")) {
                x = new DeadAir();
            } else if (isJava) {
                shown.add(answerIsShown("README.md, line " + (i + 1), line, x));
            }
        }
        Due.same("calls that are shown", shown, calls.keySet());
    }

    /** Makes the call that a line shows: its name. */
    private static String answerIsShown(String where, String line, DeadAir x)
            throws ReflectiveOperationException {
        Matcher m = CALL.matcher(line);
        if (x == null || !m.matches() || !calls.containsKey(m.group(1))) {
            Due.holds(where + " shows a call on an object with its answer", false);
            return "";
        }
        Method call = calls.get(m.group(1));
        String[] told = m.group(2).isEmpty() ? new String[0] : m.group(2).split(", ");
        if (told.length != call.getParameterCount()) {
            Due.holds(where + " hands over as many numbers as the call takes", false);
            return "";
        }
        Object[] with = new Object[told.length];
        for (int i = 0; i < told.length; i++) {
            with[i] = told[i].startsWith("DeadAir.")
                ? constants.get(told[i].substring("DeadAir.".length())) : Integer.decode(told[i]);
        }
        int got = (Integer) call.invoke(x, with);
        Integer due = constants.get(m.group(3));
        if (due == null && m.group(3).matches("[A-Z]+")) {
            Due.holds(where + ": " + m.group(3) + " is a constant", false);
        } else {
            Due.due(where + ": " + line, got, due == null ? Integer.parseInt(m.group(3)) : due);
        }
        return m.group(1);
    }

    private static void constantsAreShown(List<String> page) {
        Set<String> shown = new TreeSet<>();
        for (String line : page) {
            Matcher m = CONSTANT.matcher(line);
            if (m.matches() && constants.containsKey(m.group(1))) {
                shown.add(m.group(1));
                Due.due(m.group(1), constants.get(m.group(1)), Integer.parseInt(m.group(2)));
            }
        }
        Due.same("constants that are shown", shown, constants.keySet());
    }

    private static void testsAreShown(List<String> page) throws IOException {
        Set<String> shown = new TreeSet<>();
        for (String line : page) {
            Matcher m = TEST.matcher(line);
            if (m.matches()) {
                shown.add(m.group(1));
            }
        }
        try (Stream<Path> files = Files.list(Path.of("src/test/java"))) {
            Due.same("tests that are shown", shown, files.map(f -> f.getFileName().toString())
                .filter(f -> f.endsWith("Test.java")).map(f -> f.replace(".java", ""))
                .collect(Collectors.toSet()));
        }
    }
}
