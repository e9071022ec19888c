import java.util.List;

/** What the tests of the document's bounds share. */
final class Bounds {
    /** Calls that bring a new object to where a test begins. */
    interface Script {
        void on(DeadAir x);
    }

    interface Call {
        int on(DeadAir x);
    }

    interface CallWith {
        int on(DeadAir x, int v);
    }

    /** Nothing has happened yet. */
    static final Script BARE = x -> { };
    /** All is in use, with room for two voices more. */
    static final Script ROOM = x -> busy(x, 3);
    /** All is in use, and no voice more can come. */
    static final Script CROWD = x -> busy(x, 5);

    private Bounds() {
    }

    static DeadAir made(Script setup) {
        DeadAir x = new DeadAir();
        setup.on(x);
        return x;
    }

    /** The call answers what is due, and everything is then as if it had not been made. */
    static void unchanged(String sentence, Script setup, Call call, int due) {
        DeadAir x = made(setup);
        Due.due(sentence, call.on(x), due);
        same(sentence, x, made(setup));
    }

    static void same(String sentence, DeadAir is, DeadAir asIf) {
        List<Integer> one = Whole.of(is);
        List<Integer> other = Whole.of(asIf);
        int at = 0;
        while (at < one.size() && at < other.size() && one.get(at).equals(other.get(at))) {
            at++;
        }
        Due.due(sentence + ": the first difference behind it", at, other.size());
        Due.due(sentence + ": its end", one.size(), other.size());
    }

    /** From least to most it is taken; what lies beyond is BAD and changes nothing. */
    static void range(String sentence, Script setup, CallWith call, int least, int most,
            int... due) {
        Due.due(sentence + ": " + least, call.on(made(setup), least), due[0]);
        Due.due(sentence + ": " + most, call.on(made(setup), most), due[due.length - 1]);
        int[] beyond = {least - 1, most + 1, Integer.MIN_VALUE, Integer.MAX_VALUE};
        for (int v : beyond) {
            unchanged(sentence + ": " + v, setup, x -> call.on(x, v), DeadAir.BAD);
        }
    }

    /** z behind n draws, reckoned by longs. */
    static int drawn(int z, int n) {
        long then = z;
        for (int i = 0; i < n; i++) {
            then = (int) (then * 1103515245L + 12345L);
        }
        return (int) then;
    }

    /** The rest by m of the n-th draw from z on (n from 1). */
    static int draw(int z, int n, int m) {
        return (int) (((drawn(z, n) & 0xFFFFFFFFL) / 256) % m);
    }

    /** The first z from 1 on whose n-th draw leaves a rest by m. */
    static int seedFor(int n, int m, int rest) {
        int z = 1;
        while (draw(z, n, m) != rest) {
            z++;
        }
        return z;
    }

    /** Tenths, more than one call may ask for. */
    static void tenths(DeadAir x, int n) {
        for (int left = n; left > 0; left -= 100) {
            x.tenths(Math.min(left, 100));
        }
    }

    /** Voices of one kind, wait and talk. */
    static void voices(DeadAir x, int many, int kind, int wait, int talk) {
        for (int i = 0; i < many; i++) {
            x.voice(kind, wait, talk);
        }
    }

    static void marks(DeadAir x, int sheet, int... places) {
        for (int k = 0; k < places.length; k++) {
            x.mark(sheet, k, places[k]);
        }
    }

    /** Voices, texts, an image, sheets and slots of every sort, bytes on the tape, a row that waits. */
    private static void busy(DeadAir x, int voices) {
        int[][] all = {{0, 9, 40}, {2, 6, 30}, {1, 14, 50}, {3, 21, 20}, {4, 7, 60}};
        x.seed(4242);
        jinglesAndCuts(x);
        for (int i = 0; i < voices; i++) {
            x.voice(all[i][0], all[i][1], all[i][2]);
            x.set(i, 3, 5 + i);
            if (i == 0) {
                takesABreath(x);
            }
        }
        Due.text(x, "off s/5+h/9-l/900");
        Due.text(x, "fee s*3+c");
        Due.text(x, "fine s*100+l");
        x.tenths(30);
        x.keep();
        int[] row = {x.behind(1, 1), x.behind(1, 0), x.behind(2, 1), x.behind(2, 0)};
        x.tenths(23);
        x.air(0, 777);
        x.air(1, 90);
        x.air(2, 33);
        x.hush(0);
        x.speak(2, 9);
        Due.text(x, "fee c*7+s");
        x.sheet(0, 0, 3);
        marks(x, 0, 5, -7, 30000);
        x.sheet(1, 1, 4);
        marks(x, 1, 99999, DeadAir.NONE, -3, 2);
        x.sheet(3, 0, 0);
        x.lay(0, 1, 1);
        x.lay(1, 2, 0);
        x.lay(2, 3, -17);
        x.lay(3, 2, 1);
        Due.feed(x, "fee 12*s+c");
        for (int v : row) {
            x.tell(v);
        }
    }

    private static void jinglesAndCuts(DeadAir x) {
        x.air(2, 2);
        x.tenths(6);
        x.air(2, 0);
        x.air(1, 2);
        x.tenths(4);
        x.air(1, 110);
        x.air(0, 1000);
    }

    private static void takesABreath(DeadAir x) {
        x.speak(0, 1);
        x.tenths(14);
        x.hush(0);
    }
}
