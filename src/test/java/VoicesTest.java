/** Promises 1 to 11: a new object, voice, told, as, turns, set, speak, hush, air, deal, seed. */
public final class VoicesTest {
    private static final int BAD = DeadAir.BAD;

    private VoicesTest() {
    }

    public static void main(String[] args) {
        newObject();
        voice();
        toldByKinds();
        toldWaitsOfTheLast();
        as();
        turns();
        set();
        speak();
        hush();
        air();
        deal();
        seed();
        Due.end();
    }

    private static void newObject() {
        DeadAir x = new DeadAir();
        int[] studio = {1000, 0, 0, 0, 0, 0, 0, 0, 0, -1, 0};
        for (int what = 0; what < studio.length; what++) {
            Due.due("new: studio " + what, x.studio(what), studio[what]);
        }
        int[] count = {0, 0, 110, 0, 0, 0, 1};
        for (int what = 0; what < count.length; what++) {
            Due.due("new: count " + what, x.count(what), count[what]);
        }
        Due.due("new: fill", x.air(2, 0), 0);
        for (int sheet = 0; sheet < 4; sheet++) {
            Due.due("new: sheet " + sheet, x.reads(sheet), DeadAir.NOTHING);
        }
        for (int slot = 0; slot < 5; slot++) {
            Due.due("new: slot " + slot, x.rest(slot, 1), DeadAir.NOTHING);
        }
        for (int key = 0; key < 3; key++) {
            Due.due("new: why " + key, x.why(key), DeadAir.NONE);
        }
        Due.due("new: no image", x.back(), DeadAir.NO);
        Due.due("new: told", x.told(0, 0), BAD);
    }

    private static void voice() {
        DeadAir x = new DeadAir();
        int[][] bad = {{-1, 1, 1}, {6, 1, 1}, {0, 0, 1}, {0, 61, 1}, {0, 1, 0}, {0, 1, 61},
            {Integer.MIN_VALUE, 1, 1}, {0, Integer.MAX_VALUE, 1}, {0, 1, Integer.MIN_VALUE}};
        for (int[] b : bad) {
            Due.due("voice bad", x.voice(b[0], b[1], b[2]), BAD);
        }
        Due.due("none came", x.count(0), 0);
        for (int i = 0; i < 5; i++) {
            Due.due("voice " + i, x.voice(i, i == 0 ? 1 : 60, i == 0 ? 60 : i), i);
        }
        Due.due("count", x.count(0), 5);
        Due.due("a sixth", x.voice(5, 1, 1), DeadAir.FULL);
        Due.due("a sixth, bad", x.voice(5, 0, 1), BAD);
        Due.due("still 5", x.count(0), 5);
        Due.due("her kind", x.told(3, 0), 3);
        Due.due("her wait", x.told(3, 1), 60);
        Due.due("her talk", x.told(3, 2), 3);
        Due.due("wait 1", x.told(0, 1), 1);
        Due.due("talk 60", x.told(0, 2), 60);
        for (int what = 3; what <= 6; what++) {
            Due.due("0 at first " + what, x.told(3, what), 0);
        }
        // a voice that comes behind an image is new, whoever sat there
        DeadAir y = new DeadAir();
        y.keep();
        y.voice(1, 2, 3);
        y.turns(0, 0);
        y.voice(0, 2, 3);
        y.tenths(2);
        y.set(0, 3, 7);
        y.speak(0, 9);
        Due.holds("back is not 0", y.told(0, 5) > 0);
        y.back();
        Due.due("again", y.voice(2, 4, 5), 0);
        Due.due("pause", y.told(0, 3), 0);
        Due.due("left", y.told(0, 4), 0);
        Due.due("back", y.told(0, 5), 0);
        Due.due("said", y.told(0, 6), 0);
    }

    private static void toldByKinds() {
        // by kinds: what 7 WAITS, 8 TALKS, 9 YIELDS, 10 WORTH of WAIT 9, TALK 12
        int[][] due = {{9, 12, 1, 12}, {7, 12, 0, 21}, {12, 7, 1, 87}, {3, 17, 0, 42},
            {24, 7, 1, 80}, {9, 1, 1, 3}};
        // of WAIT 1, TALK 1
        int[][] small = {{1, 1, 1, 1}, {1, 1, 0, 10}, {4, 1, 1, 98}, {1, 6, 0, 20},
            {8, 1, 1, 91}, {1, 1, 1, 3}};
        for (int kind = 0; kind < 6; kind++) {
            DeadAir x = new DeadAir();
            x.voice(kind, 9, 12);
            x.voice(kind, 1, 1);
            x.voice(kind, 3, 2);
            for (int what = 7; what <= 10; what++) {
                Due.due("kind " + kind + " what " + what, x.told(0, what), due[kind][what - 7]);
                Due.due("small, kind " + kind + " what " + what, x.told(1, what), small[kind][what - 7]);
            }
            Due.due("wait 3 of kind " + kind, x.told(2, 7), new int[] {3, 1, 6, 1, 12, 3}[kind]);
            Due.due("talk 2 of kind " + kind, x.told(2, 8), new int[] {2, 2, 2, 7, 2, 1}[kind]);
            Due.due("what -1", x.told(0, -1), BAD);
            Due.due("what 11", x.told(0, 11), BAD);
            Due.due("voice 3", x.told(3, 0), BAD);
            Due.due("voice -1", x.told(-1, 0), BAD);
        }
    }

    private static void toldWaitsOfTheLast() {
        int[] alone = {9, 7, 12, 3, 24, 9};
        int[] asLast = {19, 17, 22, 8, 44, 19};
        for (int kind = 0; kind < 6; kind++) {
            DeadAir x = new DeadAir();
            x.voice(kind, 9, 12);
            x.voice(kind, 9, 12);
            x.set(0, 3, 10);
            x.set(1, 3, 10);
            Due.due("pause, none is last", x.told(0, 7), alone[kind]);
            x.speak(0, 2);
            x.hush(0);
            Due.due("pause of the last " + kind, x.told(0, 7), asLast[kind]);
            Due.due("pause of another " + kind, x.told(1, 7), alone[kind]);
        }
        // BACK of two who yield counts too
        DeadAir x = new DeadAir();
        x.voice(0, 5, 5);
        x.voice(2, 2, 5);
        x.tenths(5);
        Due.due("back of 0", x.told(0, 5), Due.draw(1, 1, 6));
        Due.due("back of 1", x.told(1, 5), Due.draw(1, 2, 6));
        Due.due("waits 0", x.told(0, 7), 5 + Due.draw(1, 1, 6));
        Due.due("waits 1", x.told(1, 7), 5 + Due.draw(1, 2, 6));
    }

    private static void as() {
        String[] of = {"0", "01", "02", "013", "024", "05"};
        DeadAir x = new DeadAir();
        x.voice(0, 17, 3);
        for (int kind = 0; kind < 6; kind++) {
            x.turns(0, kind);
            for (int wanted = 0; wanted < 6; wanted++) {
                int due = of[kind].indexOf('0' + wanted) >= 0 ? 17 : DeadAir.KIND;
                Due.due("kind " + kind + " as " + wanted, x.as(0, wanted), due);
            }
            Due.due("as -1", x.as(0, -1), BAD);
            Due.due("as 6", x.as(0, 6), BAD);
        }
        Due.due("no voice", x.as(1, 0), BAD);
        Due.due("no voice", x.as(-1, 0), BAD);
    }

    private static void turns() {
        DeadAir x = new DeadAir();
        x.voice(4, 8, 8);
        Due.due("was shy", x.turns(0, 1), 4);
        Due.due("is host", x.told(0, 0), 1);
        Due.due("waits as host", x.told(0, 7), 6);
        Due.due("was host", x.turns(0, 5), 1);
        Due.due("kind 6", x.turns(0, 6), BAD);
        Due.due("kind -1", x.turns(0, -1), BAD);
        Due.due("voice 1", x.turns(1, 0), BAD);
        Due.due("voice -1", x.turns(-1, 0), BAD);
        Due.due("stays", x.told(0, 0), 5);
    }

    private static void set() {
        DeadAir x = new DeadAir();
        x.voice(0, 8, 9);
        Due.due("wait", x.set(0, 1, 60), 8);
        Due.due("wait again", x.set(0, 1, 1), 60);
        Due.due("talk", x.set(0, 2, 60), 9);
        Due.due("talk again", x.set(0, 2, 1), 60);
        Due.due("pause", x.set(0, 3, 40), 0);
        Due.due("pause again", x.set(0, 3, 0), 40);
        int[][] bad = {{0, 1, 0}, {0, 1, 61}, {0, 2, 0}, {0, 2, 61}, {0, 3, -1}, {0, 3, 41},
            {0, 0, 1}, {0, 4, 1}, {1, 1, 1}, {-1, 1, 1}};
        for (int[] b : bad) {
            Due.due("set bad", x.set(b[0], b[1], b[2]), BAD);
        }
        Due.due("wait is", x.told(0, 1), 1);
        Due.due("talk is", x.told(0, 2), 1);
        Due.due("pause is", x.told(0, 3), 0);
    }

    private static void speak() {
        DeadAir x = new DeadAir();
        x.voice(0, 5, 5);
        x.voice(0, 5, 5);
        x.tenths(5);
        int back = x.told(0, 5);
        Due.holds("she stepped back", back > 0);
        Due.due("speaks", x.speak(0, 60), 0);
        Due.due("left", x.told(0, 4), 60);
        Due.due("said", x.told(0, 6), 1);
        Due.due("back stays", x.told(0, 5), back);
        Due.due("speaks again", x.speak(0, 1), 60);
        Due.due("said again", x.told(0, 6), 2);
        Due.due("no last by this", x.studio(9), -1);
        Due.due("no turn by this", x.studio(5), 0);
        int[][] bad = {{0, 0}, {0, 61}, {2, 1}, {-1, 1}};
        for (int[] b : bad) {
            Due.due("speak bad", x.speak(b[0], b[1]), BAD);
        }
        Due.due("left stays", x.told(0, 4), 1);
        Due.due("said stays", x.told(0, 6), 2);
    }

    private static void hush() {
        DeadAir x = new DeadAir();
        x.voice(0, 5, 5);
        x.voice(0, 5, 5);
        Due.due("nothing to hush", x.hush(1), 0);
        Due.due("none is last", x.studio(9), -1);
        x.speak(1, 7);
        Due.due("hushed", x.hush(1), 7);
        Due.due("is last", x.studio(9), 1);
        Due.due("left", x.told(1, 4), 0);
        Due.due("said stays", x.told(1, 6), 1);
        Due.due("nothing of 0", x.hush(0), 0);
        Due.due("last stays", x.studio(9), 1);
        Due.due("voice 2", x.hush(2), BAD);
        Due.due("voice -1", x.hush(-1), BAD);
    }

    private static void air() {
        DeadAir x = new DeadAir();
        Due.due("listeners", x.air(0, 9999), 1000);
        Due.due("listeners again", x.air(0, 0), 9999);
        Due.due("cut", x.air(1, 200), 110);
        Due.due("cut again", x.air(1, 0), 200);
        Due.due("fill", x.air(2, 200), 0);
        Due.due("fill again", x.air(2, 0), 200);
        int[][] bad = {{0, -1}, {0, 10000}, {1, -1}, {1, 201}, {2, -1}, {2, 201}, {-1, 1}, {3, 1}};
        for (int[] b : bad) {
            Due.due("air bad", x.air(b[0], b[1]), BAD);
        }
        Due.due("listeners are", x.studio(0), 0);
        Due.due("cut is", x.count(2), 0);
        Due.due("fill is", x.air(2, 3), 0);
    }

    private static void deal() {
        DeadAir x = new DeadAir();
        Due.due("deal 0", x.deal(0), BAD);
        Due.due("deal 6", x.deal(6), BAD);
        Due.due("no draw", x.count(6), 1);
        x.seed(-77);
        Due.due("two", x.deal(2), 2);
        for (int i = 0; i < 2; i++) {
            Due.due("kind", x.told(i, 0), Due.draw(-77, 3 * i + 1, 6));
            Due.due("wait", x.told(i, 1), 1 + Due.draw(-77, 3 * i + 2, 20));
            Due.due("talk", x.told(i, 2), 1 + Due.draw(-77, 3 * i + 3, 40));
        }
        Due.due("six draws", x.count(6), Due.drawn(-77, 6));
        Due.due("room for three", x.deal(5), 3);
        Due.due("nine draws more", x.count(6), Due.drawn(-77, 15));
        Due.due("the last's talk", x.told(4, 2), 1 + Due.draw(-77, 15, 40));
        Due.due("no room", x.deal(1), 0);
        Due.due("no draw for others", x.count(6), Due.drawn(-77, 15));
    }

    private static void seed() {
        DeadAir x = new DeadAir();
        Due.due("was 1", x.seed(Integer.MIN_VALUE), 1);
        Due.due("z is", x.count(6), Integer.MIN_VALUE);
        Due.due("was lowest", x.seed(-1), Integer.MIN_VALUE);
        Due.due("was -1", x.seed(Integer.MAX_VALUE), -1);
    }
}
