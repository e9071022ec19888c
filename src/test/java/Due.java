import java.util.Set;
import java.util.TreeSet;

/** Counts answers that are not as due, and ends a test by them. */
final class Due {
    private static int asked = 0;
    private static int wrong = 0;

    private Due() {
    }

    static void due(String call, long got, long want) {
        asked++;
        if (got != want) {
            wrong++;
            if (wrong <= 50) {
                System.out.println(call + " answered " + got + ", due is " + want);
            }
        }
    }

    static void holds(String what, boolean so) {
        due(what, so ? 1 : 0, 1);
    }

    /** Bytes of a text, padded by blanks, come to the tape, which is then cut to the text. */
    static void feed(DeadAir x, String text) {
        for (int i = 0; i < text.length(); i += 12) {
            x.feed(word(text, i), word(text, i + 4), word(text, i + 8));
        }
        x.trim(text.length());
    }

    static int text(DeadAir x, String text) {
        feed(x, text);
        return x.text();
    }

    /** Four bytes of a text from a place on, as a number; blanks behind its end. */
    static int word(String text, int from) {
        int v = 0;
        for (int i = from; i < from + 4; i++) {
            v = v << 8 | (i < text.length() ? text.charAt(i) & 255 : 32);
        }
        return v;
    }

    /** z behind n draws. */
    static int drawn(int z, int n) {
        for (int i = 0; i < n; i++) {
            z = z * 1103515245 + 12345;
        }
        return z;
    }

    /** The rest by m of the n-th draw from z on (n from 1). */
    static int draw(int z, int n, int m) {
        return (drawn(z, n) >>> 8) % m;
    }

    /** All that studio, count and told tell. */
    static int[] state(DeadAir x) {
        int[] all = new int[11 + 7 + 5 * 11];
        int n = 0;
        for (int what = 0; what <= 10; what++) {
            all[n++] = x.studio(what);
        }
        for (int what = 0; what <= 6; what++) {
            all[n++] = x.count(what);
        }
        for (int voice = 0; voice < 5; voice++) {
            for (int what = 0; what <= 10; what++) {
                all[n++] = x.told(voice, what);
            }
        }
        return all;
    }

    static void same(String what, int[] is, int[] was) {
        for (int i = 0; i < was.length; i++) {
            due(what + ": " + i, is[i], was[i]);
        }
    }

    /** Two sets of names are the same; which names one of them lacks is told. */
    static void same(String what, Set<String> is, Set<String> want) {
        Set<String> either = new TreeSet<>(is);
        either.addAll(want);
        for (String name : either) {
            holds(what + ": " + name, is.contains(name) && want.contains(name));
        }
    }

    static void end() {
        System.out.println(asked + " answers, " + wrong + " not as due");
        if (wrong != 0 || asked == 0) {
            System.exit(1);
        }
    }
}
