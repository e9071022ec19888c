import java.io.IOException;
import java.lang.reflect.Constructor;
import java.lang.reflect.Field;
import java.lang.reflect.Method;
import java.lang.reflect.Modifier;
import java.nio.file.Files;
import java.nio.file.Path;
import java.util.Arrays;
import java.util.Set;
import java.util.TreeMap;
import java.util.TreeSet;
import java.util.regex.Matcher;
import java.util.regex.Pattern;

/** The document's face, and the rules of LANGUAGE.md that a program can see. */
public final class FaceTest {
    /** Each call of the face with how many ints it takes. */
    private static final String CALLS = "voice 3, told 2, as 2, turns 2, set 3, speak 2, hush 1, "
        + "air 2, deal 1, seed 1, tenths 1, studio 1, behind 2, next 1, hole 1, patience 3, "
        + "device 2, filler 2, becomes 3, apart 3, whose 2, fee 0, fine 1, feed 3, trim 1, text 0, "
        + "textTold 2, why 1, sheet 3, mark 3, pour 1, reads 1, copy 5, lay 3, ask 2, item 2, "
        + "rest 2, tell 1, check 1, keep 0, back 0, count 1";

    private FaceTest() {
    }

    public static void main(String[] args) throws IOException {
        constants();
        members();
        calls();
        classesInside();
        source();
        Due.end();
    }

    private static void constants() {
        Due.due("BAD", DeadAir.BAD, -1000000001);
        Due.due("NO", DeadAir.NO, -1000000002);
        Due.due("FULL", DeadAir.FULL, -1000000003);
        Due.due("NONE", DeadAir.NONE, -1000000005);
        Due.due("NOTHING", DeadAir.NOTHING, -1000000011);
        Due.due("KIND", DeadAir.KIND, -1000000012);
        Due.due("INDEX", DeadAir.INDEX, -1000000013);
        Due.due("SIZE", DeadAir.SIZE, -1000000014);
    }

    private static void members() {
        int face = DeadAir.class.getModifiers();
        Due.holds("public and final", Modifier.isPublic(face) && Modifier.isFinal(face));
        int open = 0;
        for (Field f : DeadAir.class.getDeclaredFields()) {
            if (!Modifier.isPrivate(f.getModifiers())) {
                open++;
                int how = f.getModifiers();
                Due.holds(f.getName() + " is a constant", Modifier.isPublic(how)
                    && Modifier.isStatic(how) && Modifier.isFinal(how) && f.getType() == int.class);
            }
        }
        Due.due("constants", open, 8);
        Constructor<?>[] made = DeadAir.class.getDeclaredConstructors();
        Due.due("constructors", made.length, 1);
        Due.holds("it is public and takes nothing",
            Modifier.isPublic(made[0].getModifiers()) && made[0].getParameterCount() == 0);
    }

    private static void calls() {
        TreeMap<String, Integer> due = new TreeMap<>();
        for (String call : CALLS.split(", ")) {
            due.put(call.split(" ")[0], Integer.valueOf(call.split(" ")[1]));
        }
        Due.due("calls", due.size(), 42);
        Set<String> seen = new TreeSet<>();
        for (Method m : DeadAir.class.getDeclaredMethods()) {
            boolean isOpen = !Modifier.isPrivate(m.getModifiers());
            Integer takes = due.get(m.getName());
            Due.holds(m.getName() + " stands in the face or is private", isOpen == (takes != null));
            if (takes != null) {
                seen.add(m.getName());
                Due.holds(m.getName() + " is a public method", Modifier.isPublic(m.getModifiers())
                    && !Modifier.isStatic(m.getModifiers()));
                Due.due(m.getName() + " takes", m.getParameterCount(), takes);
                Due.holds(m.getName() + " is of ints", m.getReturnType() == int.class
                    && Arrays.stream(m.getParameterTypes()).allMatch(t -> t == int.class));
            }
        }
        Due.due("all calls are there", seen.size(), due.size());
        for (Class<?> inside : DeadAir.class.getDeclaredClasses()) {
            for (Method m : inside.getDeclaredMethods()) {
                Due.holds(m.getName() + " inside has a name of its own", !due.containsKey(m.getName()));
            }
        }
    }

    private static void classesInside() {
        Class<?>[] inside = DeadAir.class.getDeclaredClasses();
        Due.holds("at most twelve classes", inside.length < 12);
        for (Class<?> c : inside) {
            Due.holds(c.getName() + " is static", Modifier.isStatic(c.getModifiers()));
            Due.holds(c.getName() + " is not open", !Modifier.isPublic(c.getModifiers())
                && !Modifier.isProtected(c.getModifiers()));
            int fields = 0;
            for (Field f : c.getDeclaredFields()) {
                boolean isStatic = Modifier.isStatic(f.getModifiers());
                Due.holds(f.getName() + " is no static state",
                    !isStatic || Modifier.isFinal(f.getModifiers()));
                fields += isStatic ? 0 : 1;
            }
            Due.holds(c.getName() + " has some twenty fields at most", fields <= 20);
        }
    }

    private static void source() throws IOException {
        String whole = Files.readString(Path.of("src/main/java/DeadAir.java"));
        String code = whole.replaceAll("(?s)/\\*.*?\\*/", "").replaceAll("//[^\n]*", "");
        for (String word : "throw try catch synchronized assert import package instanceof var record"
            .split(" ")) {
            Due.holds("no " + word, !Pattern.compile("\\b" + word + "\\b").matcher(code).find());
        }
        Due.holds("no lambda", !code.contains("->"));
        Due.holds("no method reference", !code.contains("::"));
        Due.holds("no text is joined by +", !Pattern.compile("\"\\s*\\+|\\+\\s*\"").matcher(code).find());
        Due.holds("signs 1 to 127", whole.chars().allMatch(c -> c < 128));
        Matcher library = Pattern.compile("\\b(Math|System|Arrays|Integer|Long)\\.(\\w+)").matcher(code);
        Set<String> listed = Set.of("Math.max", "Math.min", "Math.abs", "Integer.bitCount",
            "System.arraycopy");
        while (library.find()) {
            Due.holds(library.group() + " is listed", listed.contains(library.group()));
        }
        methodsAreShort(code);
    }

    private static void methodsAreShort(String code) {
        int begun = 0;
        String[] lines = code.split("\n");
        for (int i = 0; i < lines.length; i++) {
            if (lines[i].matches("( {4}| {8})\\S.*\\) \\{")) {
                begun = i;
            }
            if (lines[i].matches("( {4}| {8})\\}")) {
                Due.holds("the method that ends in line " + (i + 1) + " is short", i - begun <= 60);
            }
        }
    }
}
