/** Promises 30 to 38: sheet, mark, pour, reads, copy, lay, ask, item, rest. */
public final class SheetsTest {
    private static final int BAD = DeadAir.BAD, NONE = DeadAir.NONE, NOTHING = DeadAir.NOTHING,
        KIND = DeadAir.KIND, INDEX = DeadAir.INDEX, SIZE = DeadAir.SIZE;

    private SheetsTest() {
    }

    public static void main(String[] args) {
        sheet();
        mark();
        pour();
        reads();
        copy();
        copyRefused();
        lay();
        layForGood();
        ask();
        item();
        rest();
        Due.end();
    }

    /** A place of a sheet, by way of slot 4. */
    private static int place(DeadAir x, int sheet, int place) {
        x.lay(4, 2, sheet);
        return x.item(4, place);
    }

    private static void row(DeadAir x, int sheet, int... places) {
        for (int k = 0; k < places.length; k++) {
            x.mark(sheet, k, places[k]);
        }
    }

    private static void is(String what, DeadAir x, int sheet, int... places) {
        for (int k = 0; k < places.length; k++) {
            Due.due(what + ", place " + k, place(x, sheet, k), places[k]);
        }
        Due.due(what + ", its end", place(x, sheet, places.length), INDEX);
    }

    private static void sheet() {
        DeadAir x = new DeadAir();
        Due.due("24", x.sheet(0, 0, 24), 24);
        Due.due("0", x.sheet(3, 1, 0), 0);
        Due.due("25", x.sheet(0, 0, 25), BAD);
        Due.due("25 floats", x.sheet(0, 1, 25), BAD);
        Due.due("-1", x.sheet(0, 0, -1), SIZE);
        Due.due("lowest", x.sheet(0, 1, Integer.MIN_VALUE), SIZE);
        Due.due("sheet 4", x.sheet(4, 0, 1), BAD);
        Due.due("sheet -1", x.sheet(-1, 0, 1), BAD);
        Due.due("sort 2", x.sheet(0, 2, 1), BAD);
        Due.due("sort -2", x.sheet(0, -2, 1), BAD);
        Due.due("bad sort, below 0", x.sheet(0, 2, -1), BAD);
        Due.due("it stays", place(x, 0, 23), 0);
        Due.due("its end", place(x, 0, 24), INDEX);
        x.mark(0, 0, 5);
        Due.due("anew", x.sheet(0, 0, 2), 2);
        is("all 0", x, 0, 0, 0);
        Due.due("missing, n any", x.sheet(0, -1, 99), 0);
        Due.due("missing", x.reads(0), NOTHING);
        Due.due("missing, n below 0", x.sheet(3, -1, -5), 0);
        Due.due("missing", x.reads(3), NOTHING);
        Due.due("missing sheet 4", x.sheet(4, -1, 0), BAD);
    }

    private static void mark() {
        DeadAir x = new DeadAir();
        Due.due("sheet 4", x.mark(4, 0, 0), BAD);
        Due.due("sheet -1", x.mark(-1, 0, 0), BAD);
        Due.due("missing", x.mark(0, 0, 0), NOTHING);
        Due.due("missing first", x.mark(0, 99, NONE), NOTHING);
        x.sheet(0, 0, 3);
        x.sheet(1, 1, 3);
        for (int sheet = 0; sheet < 2; sheet++) {
            Due.due("place 3", x.mark(sheet, 3, NONE), INDEX);
            Due.due("place -1", x.mark(sheet, -1, 100000), INDEX);
        }
        Due.due("none of shorts", x.mark(0, 0, NONE), KIND);
        Due.due("short", x.mark(0, 0, 32767), 1);
        Due.due("short", x.mark(0, 1, 32768), 1);
        Due.due("short", x.mark(0, 2, -65537), 1);
        is("lowest 16 bits", x, 0, 32767, -32768, -1);
        x.mark(0, 0, 65541);
        Due.due("5", place(x, 0, 0), 5);
        x.mark(0, 0, DeadAir.BAD);
        Due.due("any other number", place(x, 0, 0), (short) DeadAir.BAD);
        Due.due("float", x.mark(1, 0, 99999), 1);
        Due.due("float", x.mark(1, 1, -99999), 1);
        Due.due("no number", x.mark(1, 2, NONE), 1);
        is("floats", x, 1, 99999, -99999, KIND);
        Due.due("too much", x.mark(1, 0, 100000), BAD);
        Due.due("too little", x.mark(1, 1, -100000), BAD);
        Due.due("another constant", x.mark(1, 1, NOTHING), BAD);
        is("floats stay", x, 1, 99999, -99999, KIND);
        Due.due("a number again", x.mark(1, 2, 4), 1);
        Due.due("4", place(x, 1, 2), 4);
    }

    private static void pour() {
        DeadAir x = new DeadAir();
        Due.due("sheet 4", x.pour(4), BAD);
        Due.due("sheet -1", x.pour(-1), BAD);
        Due.due("missing", x.pour(2), NOTHING);
        x.sheet(2, 1, 4);
        Due.due("no voices", x.pour(2), 0);
        for (int i = 0; i < 5; i++) {
            x.voice(0, 10, 10);
        }
        row(x, 2, 10, NONE, 99999, -3);
        Due.due("two are otherwise", x.pour(2), 2);
        int[] waits = {10, 10, 60, 1, 10};
        for (int i = 0; i < 5; i++) {
            Due.due("wait of " + i, x.told(i, 1), waits[i]);
        }
        Due.due("again none", x.pour(2), 0);
        x.sheet(0, 0, 24);
        row(x, 0, 60, 61, 1, 0, 59);
        Due.due("four", x.pour(0), 4);
        int[] then = {60, 60, 1, 1, 59};
        for (int i = 0; i < 5; i++) {
            Due.due("wait of " + i, x.told(i, 1), then[i]);
        }
        x.sheet(0, 0, 0);
        Due.due("no places", x.pour(0), 0);
    }

    private static void reads() {
        DeadAir x = new DeadAir();
        Due.due("sheet 4", x.reads(4), BAD);
        Due.due("sheet -1", x.reads(-1), BAD);
        Due.due("missing", x.reads(0), NOTHING);
        x.voice(0, 9, 9);
        x.voice(0, 9, 9);
        x.speak(1, 3);
        x.speak(1, 3);
        x.sheet(0, 0, 0);
        Due.due("no places", x.reads(0), NONE);
        x.sheet(0, 0, 1);
        Due.due("0 is said", x.reads(0), NONE);
        x.sheet(0, 0, 2);
        Due.due("1 is not", x.reads(0), 1);
        row(x, 0, 0, 2);
        Due.due("both are", x.reads(0), NONE);
        row(x, 0, 1, 2);
        Due.due("0 is not", x.reads(0), 0);
        x.sheet(1, 1, 5);
        row(x, 1, NONE, 2, NONE, NONE, 0);
        Due.due("no voice there", x.reads(1), 4);
        x.mark(1, 2, 0);
        Due.due("nor there", x.reads(1), 2);
        row(x, 1, NONE, 2, NONE, NONE, NONE);
        Due.due("numbers alone", x.reads(1), NONE);
    }

    private static void copy() {
        DeadAir x = new DeadAir();
        x.sheet(0, 0, 5);
        x.sheet(1, 0, 3);
        row(x, 0, 1, 2, 3, 4, 5);
        Due.due("to another", x.copy(0, 2, 1, 1, 2), 2);
        is("another", x, 1, 0, 3, 4);
        Due.due("up", x.copy(0, 0, 0, 1, 4), 4);
        is("as they were", x, 0, 1, 1, 2, 3, 4);
        Due.due("down", x.copy(0, 1, 0, 0, 4), 4);
        is("as they were", x, 0, 1, 2, 3, 4, 4);
        Due.due("none", x.copy(0, 0, 1, 0, 0), 0);
        Due.due("none at the ends", x.copy(0, 5, 1, 3, 0), 0);
        Due.due("all", x.copy(1, 0, 1, 0, 3), 3);
        x.sheet(2, 1, 2);
        x.sheet(3, 1, 2);
        row(x, 2, NONE, -7);
        Due.due("floats", x.copy(2, 0, 3, 0, 2), 2);
        is("floats", x, 3, KIND, -7);
    }

    private static void copyRefused() {
        DeadAir x = new DeadAir();
        Due.due("bad from", x.copy(4, 0, 0, 0, 1), BAD);
        Due.due("bad from", x.copy(-1, 0, 0, 0, 1), BAD);
        Due.due("bad to", x.copy(0, 0, 4, 0, 1), BAD);
        Due.due("bad to", x.copy(0, 0, -1, 0, 1), BAD);
        Due.due("both missing", x.copy(0, 0, 1, 0, 1), NOTHING);
        x.sheet(0, 0, 3);
        Due.due("to missing", x.copy(0, 9, 1, 0, 1), NOTHING);
        Due.due("from missing", x.copy(1, 0, 0, 0, 1), NOTHING);
        x.sheet(1, 1, 3);
        Due.due("sorts", x.copy(0, 9, 1, 0, 1), KIND);
        Due.due("sorts", x.copy(1, 0, 0, 0, 0), KIND);
        x.sheet(1, 0, 2);
        int[][] bad = {{-1, 0, 1}, {0, -1, 1}, {0, 0, -1}, {3, 0, 1}, {0, 2, 1}, {0, 0, 3},
            {2, 0, 2}, {0, 1, 2}, {4, 0, 0}, {0, 3, 0}, {Integer.MAX_VALUE, 0, 1},
            {1, 0, Integer.MAX_VALUE}, {0, Integer.MAX_VALUE, 1}, {0, 0, Integer.MIN_VALUE},
            {Integer.MIN_VALUE, 0, Integer.MIN_VALUE}};
        row(x, 0, 7, 8, 9);
        for (int[] b : bad) {
            Due.due("index", x.copy(0, b[0], 1, b[1], b[2]), INDEX);
        }
        is("nothing came", x, 1, 0, 0);
    }

    private static void lay() {
        DeadAir x = new DeadAir();
        x.voice(0, 1, 1);
        x.sheet(0, 0, 1);
        int[][] bad = {{5, 3, 0}, {-1, 3, 0}, {0, 4, 0}, {0, -1, 0}, {0, 1, 1}, {0, 1, -1},
            {0, 2, 4}, {0, 2, -1}};
        for (int[] b : bad) {
            Due.due("lay bad", x.lay(b[0], b[1], b[2]), BAD);
        }
        Due.due("missing", x.lay(0, 2, 3), NOTHING);
        Due.due("voice", x.lay(0, 1, 0), 0);
        Due.due("missing", x.lay(0, 2, 1), NOTHING);
        Due.due("sheet", x.lay(0, 2, 0), 1);
        Due.due("number", x.lay(0, 3, -5), 2);
        Due.due("number again", x.lay(0, 3, 6), 3);
        Due.due("nothing, k any", x.lay(0, 0, 99), 3);
        Due.due("nothing again", x.lay(0, 0, 0), 0);
        Due.due("slot 4", x.lay(4, 3, 1), 0);
    }

    private static void layForGood() {
        DeadAir x = new DeadAir();
        x.voice(1, 5, 20);
        x.lay(0, 1, 0);
        x.set(0, 2, 40);
        x.turns(0, 5);
        Due.due("as she was", x.ask(0, 1), 29);
        Due.due("not as she is", x.ask(0, 5), KIND);
        x.lay(1, 1, 0);
        Due.due("as she is", x.ask(1, 5), 3);
        x.sheet(0, 0, 2);
        x.mark(0, 1, 9);
        x.lay(2, 2, 0);
        x.mark(0, 1, 8);
        Due.due("as it was", x.item(2, 1), 9);
        x.sheet(0, -1, 0);
        Due.due("still", x.item(2, 1), 9);
        x.keep();
        x.lay(2, 3, 7);
        x.back();
        Due.due("an image keeps no slots", x.rest(2, 4), 3);
    }

    private static void ask() {
        DeadAir x = new DeadAir();
        String[] of = {"0", "01", "02", "013", "024", "05"};
        int[] worth = {12, 21, 87, 42, 80, 3};
        x.voice(0, 9, 12);
        for (int kind = 0; kind < 6; kind++) {
            x.turns(0, kind);
            x.lay(3, 1, 0);
            for (int wanted = 0; wanted < 6; wanted++) {
                int due = of[kind].indexOf('0' + wanted) >= 0 ? worth[kind] : KIND;
                Due.due("kind " + kind + " for " + wanted, x.ask(3, wanted), due);
            }
        }
        Due.due("slot 5", x.ask(5, 0), BAD);
        Due.due("slot -1", x.ask(-1, 0), BAD);
        Due.due("kind 6", x.ask(3, 6), BAD);
        Due.due("kind -1", x.ask(0, -1), BAD);
        Due.due("nothing", x.ask(0, 0), NOTHING);
        x.lay(0, 3, 1);
        Due.due("a number", x.ask(0, 0), KIND);
        x.sheet(0, 0, 1);
        x.lay(0, 2, 0);
        Due.due("a sheet", x.ask(0, 0), KIND);
    }

    private static void item() {
        DeadAir x = new DeadAir();
        x.sheet(1, 1, 2);
        row(x, 1, -12, NONE);
        x.lay(0, 2, 1);
        Due.due("place 0", x.item(0, 0), -12);
        Due.due("no number", x.item(0, 1), KIND);
        Due.due("place 2", x.item(0, 2), INDEX);
        Due.due("place -1", x.item(0, -1), INDEX);
        Due.due("slot 5", x.item(5, 0), BAD);
        Due.due("slot -1", x.item(-1, 0), BAD);
        Due.due("nothing", x.item(1, 9), NOTHING);
        x.lay(1, 3, 4);
        Due.due("a number", x.item(1, 9), KIND);
        x.voice(0, 1, 1);
        x.lay(1, 1, 0);
        Due.due("a voice", x.item(1, 9), KIND);
    }

    private static void rest() {
        DeadAir x = new DeadAir();
        Due.due("slot 5", x.rest(5, 0), BAD);
        Due.due("slot -1", x.rest(-1, 0), BAD);
        Due.due("nothing", x.rest(0, 0), NOTHING);
        x.voice(0, 1, 1);
        x.lay(0, 1, 0);
        Due.due("a voice", x.rest(0, 0), KIND);
        x.sheet(0, 0, 1);
        x.lay(0, 2, 0);
        Due.due("a sheet", x.rest(0, 0), KIND);
        x.lay(0, 3, -17);
        Due.due("by 0", x.rest(0, 0), DeadAir.NO);
        Due.due("by 5", x.rest(0, 5), -2);
        Due.due("by -5", x.rest(0, -5), -2);
        x.lay(0, 3, Integer.MIN_VALUE);
        Due.due("lowest by -1", x.rest(0, -1), 0);
        Due.due("lowest by 10", x.rest(0, 10), -8);
    }
}
