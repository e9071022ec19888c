import java.lang.reflect.InvocationTargetException;
import java.lang.reflect.Method;
import java.lang.reflect.Modifier;
import java.util.Arrays;
import java.util.Random;

/** No call throws, whatever is handed to it in whatever state. */
public final class EdgesTest {
    private static final int[] EDGES = {Integer.MIN_VALUE, Integer.MIN_VALUE + 1, -1000000005,
        -100001, -65536, -32769, -2, -1, 0, 1, 2, 3, 4, 5, 6, 7, 8, 9, 10, 11, 23, 24, 25, 30, 31,
        40, 41, 59, 60, 61, 95, 96, 97, 100, 101, 200, 201, 9999, 10000, 32768, 99999, 100000,
        Integer.MAX_VALUE - 1, Integer.MAX_VALUE};

    private EdgesTest() {
    }

    public static void main(String[] args) throws IllegalAccessException {
        for (int run = 0; run < 300; run++) {
            edges(run);
        }
        everyEdgeOfEveryCall();
        longestTalk();
        Due.end();
    }

    private static DeadAir fresh(int run) {
        DeadAir x = new DeadAir();
        x.seed(run);
        if (run % 3 != 0) {
            x.deal(1 + run % 5);
        }
        if (run % 2 == 0) {
            Due.text(x, "off 9999*9999*s-l*h*9999");
            x.tenths(50);
            x.keep();
        }
        for (int i = 0; i < 4; i++) {
            x.sheet(i, (run + i) % 3 - 1, (run * 7 + i) % 25);
        }
        return x;
    }

    private static void call(DeadAir x, Method m, Random lot) throws IllegalAccessException {
        Object[] with = new Object[m.getParameterCount()];
        for (int i = 0; i < with.length; i++) {
            with[i] = EDGES[lot.nextInt(EDGES.length)];
        }
        call(x, m, with);
    }

    private static void call(DeadAir x, Method m, Object... with) throws IllegalAccessException {
        try {
            m.invoke(x, with);
            Due.holds(m.getName(), true);
        } catch (InvocationTargetException e) {
            Due.holds(m.getName() + " throws " + e.getCause(), false);
        }
    }

    private static void edges(int run) throws IllegalAccessException {
        DeadAir x = fresh(run);
        Random lot = new Random(run);
        Method[] all = DeadAir.class.getDeclaredMethods();
        Arrays.sort(all, (a, b) -> a.getName().compareTo(b.getName()));
        for (int i = 0; i < 450; i++) {
            Method m = all[lot.nextInt(all.length)];
            if (Modifier.isPublic(m.getModifiers())) {
                call(x, m, lot);
            }
        }
    }

    private static void everyEdgeOfEveryCall() throws IllegalAccessException {
        for (Method m : DeadAir.class.getDeclaredMethods()) {
            if (!Modifier.isPublic(m.getModifiers()) || m.getParameterCount() == 0) {
                continue;
            }
            DeadAir x = fresh(8);
            for (int place = 0; place < m.getParameterCount(); place++) {
                for (int edge : EDGES) {
                    Object[] with = new Object[m.getParameterCount()];
                    Arrays.fill(with, 1);
                    with[place] = edge;
                    call(x, m, with);
                }
            }
        }
    }

    /** The longest WAITS, PAUSE and TALK over a whole run. */
    private static void longestTalk() {
        DeadAir x = new DeadAir();
        for (int i = 0; i < 5; i++) {
            x.voice(i, 60, 60);
            x.set(i, 3, 40);
        }
        x.air(1, 0);
        for (int i = 0; i < 105; i++) {
            x.tenths(100);
        }
        Due.due("the last tenth", x.count(1), 9999);
        Due.holds("silent and not", x.studio(2) > 0 && x.studio(2) < 9999);
        Due.holds("she waits no longer than told", x.told(4, 7) <= 2 * (60 + 40 + 5 + 3));
    }
}
