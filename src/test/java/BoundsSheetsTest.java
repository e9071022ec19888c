/** "5 SHEETS .. SLOTS" and promises 30 to 38 at their bounds: a test for each sentence that names one. */
public final class BoundsSheetsTest {
    private static final int BAD = DeadAir.BAD, NO = DeadAir.NO, NONE = DeadAir.NONE,
        NOTHING = DeadAir.NOTHING, KIND = DeadAir.KIND, INDEX = DeadAir.INDEX, SIZE = DeadAir.SIZE;
    private static final int MIN = Integer.MIN_VALUE, MAX = Integer.MAX_VALUE;

    private BoundsSheetsTest() {
    }

    public static void main(String[] args) {
        sheetBounds();
        sheetPlaces();
        sheetSize();
        sheetAllZero();
        sheetMissing();
        markSheetBounds();
        markNothing();
        markIndex();
        markShorts();
        markNoneInShorts();
        markFloats();
        pourBounds();
        pourHeldWithin();
        pourStay();
        pourHowMany();
        readsBounds();
        readsFirstPlace();
        readsNoVoice();
        readsNone();
        readsShortsAndSaid();
        copyBounds();
        copyNothing();
        copyKind();
        copyIndex();
        copyNoPlaces();
        copyAllPlaces();
        copyAsTheyWere();
        layBounds();
        layWhatItHeld();
        layNothing();
        layForGood();
        layRowOfItsOwn();
        askBounds();
        askKind();
        askAsSheIs();
        itemBounds();
        itemIndex();
        itemNoNumber();
        restBounds();
        restOfAnyNumber();
        Due.end();
    }

    /** A place of a SHEET, by way of slot 4. */
    private static int place(DeadAir x, int sheet, int place) {
        x.lay(4, 2, sheet);
        return x.item(4, place);
    }

    private static void is(String what, DeadAir x, int sheet, int... places) {
        for (int k = 0; k < places.length; k++) {
            Due.due(what + ", place " + k, place(x, sheet, k), places[k]);
        }
        Due.due(what + ", its end", place(x, sheet, places.length), INDEX);
    }

    /** "SHEETS 0 .. 3"; promise 30: "BAD: sheet, sort, n above 24". */
    private static void sheetBounds() {
        Bounds.range("sheet, sheet 0 .. 3", Bounds.CROWD, (x, v) -> x.sheet(v, 0, 2), 0, 3, 2);
        Bounds.range("sheet, MISSING, sheet 0 .. 3", Bounds.CROWD, (x, v) -> x.sheet(v, -1, 2), 0, 3, 0);
        Bounds.range("sheet, sort -1 .. 1", Bounds.CROWD, (x, v) -> x.sheet(0, v, 2), -1, 1, 0, 2);
        for (int sort = 0; sort < 2; sort++) {
            int s = sort;
            Bounds.unchanged("n 25", Bounds.CROWD, x -> x.sheet(0, s, 25), BAD);
            Bounds.unchanged("n far above", Bounds.CROWD, x -> x.sheet(1, s, MAX), BAD);
        }
    }

    /** "with 0 to 24 places"; promise 30: ": n (0)". */
    private static void sheetPlaces() {
        for (int sort = 0; sort < 2; sort++) {
            DeadAir x = new DeadAir();
            Due.due("24", x.sheet(0, sort, 24), 24);
            Due.due("the last place", place(x, 0, 23), 0);
            Due.due("behind it", place(x, 0, 24), INDEX);
            Due.due("it can be marked", x.mark(0, 23, 7), 1);
            Due.due("and read", place(x, 0, 23), 7);
            Due.due("1", x.sheet(1, sort, 1), 1);
            Due.due("its place", place(x, 1, 0), 0);
            Due.due("behind it", place(x, 1, 1), INDEX);
            Due.due("0", x.sheet(2, sort, 0), 0);
            Due.due("no place", place(x, 2, 0), INDEX);
            Due.due("but not MISSING", x.pour(2), 0);
        }
    }

    /** "SIZE: a number of places is below 0"; promise 30: "SIZE". */
    private static void sheetSize() {
        for (int sort = 0; sort < 2; sort++) {
            int s = sort;
            Bounds.unchanged("-1", Bounds.CROWD, x -> x.sheet(0, s, -1), SIZE);
            Bounds.unchanged("the lowest", Bounds.CROWD, x -> x.sheet(2, s, MIN), SIZE);
        }
    }

    /** Promise 30: "all 0". */
    private static void sheetAllZero() {
        for (int before = 0; before < 2; before++) {
            for (int behind = 0; behind < 2; behind++) {
                DeadAir x = new DeadAir();
                x.sheet(0, before, 24);
                for (int k = 0; k < 24; k++) {
                    x.mark(0, k, before == 1 && k % 2 == 0 ? NONE : k + 1);
                }
                x.sheet(0, behind, 24);
                is("all 0", x, 0, new int[24]);
            }
        }
        // places that a shorter one had hidden are 0 too
        DeadAir y = new DeadAir();
        y.sheet(0, 0, 2);
        Bounds.marks(y, 0, 8, 9);
        y.sheet(0, 0, 1);
        y.sheet(0, 0, 2);
        is("all 0", y, 0, 0, 0);
    }

    /** Promise 30: "(sort -1: MISSING, n any)". */
    private static void sheetMissing() {
        for (int n : new int[] {0, 1, 24, 25, -1, MIN, MAX}) {
            DeadAir x = new DeadAir();
            x.sheet(3, 0, 5);
            Due.due("n " + n, x.sheet(3, -1, n), 0);
            Due.due("MISSING", x.reads(3), NOTHING);
            Due.due("again", x.sheet(3, -1, n), 0);
            Due.due("MISSING still", x.reads(3), NOTHING);
        }
    }

    /** Promise 31: "BAD: sheet". */
    private static void markSheetBounds() {
        Bounds.range("mark, sheet, all MISSING", Bounds.BARE, (x, v) -> x.mark(v, 0, 0), 0, 3, NOTHING);
        Bounds.range("mark, sheet", Bounds.CROWD, (x, v) -> x.mark(v, 0, 0), 0, 3, 1, INDEX);
    }

    private static void markNothing() {
        Bounds.unchanged("NOTHING", Bounds.CROWD, x -> x.mark(2, 0, 0), NOTHING);
        Bounds.unchanged("ahead of INDEX", Bounds.CROWD, x -> x.mark(2, -1, 0), NOTHING);
        Bounds.unchanged("ahead of KIND", Bounds.CROWD, x -> x.mark(2, 0, NONE), NOTHING);
        Bounds.unchanged("ahead of BAD: v", Bounds.CROWD, x -> x.mark(2, 0, 100000), NOTHING);
    }

    /** "INDEX: there is no such place". */
    private static void markIndex() {
        int[] ends = {3, 4, 0, 0};
        for (int sheet : new int[] {0, 1, 3}) {
            for (int place : new int[] {-1, ends[sheet], MIN, MAX}) {
                for (int v : new int[] {0, NONE, 100000}) {
                    Bounds.unchanged("INDEX " + place + " ahead of KIND and of BAD: v", Bounds.CROWD,
                        x -> x.mark(sheet, place, v), INDEX);
                }
            }
        }
        DeadAir x = Bounds.made(Bounds.CROWD);
        Due.due("the first", x.mark(0, 0, 1), 1);
        Due.due("the last", x.mark(0, 2, 3), 1);
        is("both", x, 0, 1, -7, 3);
    }

    /** Promise 31: "of shorts its lowest 16 bits". */
    private static void markShorts() {
        int[] v = {32767, 32768, -32768, -32769, 65535, 65536, 65537, -65536, MAX, MIN, NONE + 1,
            NONE - 1, 99999, 100000, -100000, -1};
        int[] due = {32767, -32768, -32768, 32767, -1, 0, 1, 0, -1, 0, 13820, 13818, -31073,
            -31072, 31072, -1};
        DeadAir x = new DeadAir();
        x.sheet(0, 0, 1);
        for (int i = 0; i < v.length; i++) {
            Due.due("mark " + v[i], x.mark(0, 0, v[i]), 1);
            Due.due("lowest 16 bits of " + v[i], place(x, 0, 0), due[i]);
        }
    }

    /** Promise 31: "KIND: NONE in a row of shorts". */
    private static void markNoneInShorts() {
        for (int place = 0; place < 3; place++) {
            int at = place;
            Bounds.unchanged("KIND", Bounds.CROWD, x -> x.mark(0, at, NONE), KIND);
        }
    }

    /** Promise 31: "of floats v, -99999 .. 99999; NONE: NO NUMBER", "BAD: v of floats". */
    private static void markFloats() {
        Bounds.range("mark, v of floats", Bounds.CROWD, (x, v) -> x.mark(1, 2, v), -99999, 99999, 1);
        for (int v : new int[] {NONE - 1, NONE + 1, NOTHING, BAD}) {
            Bounds.unchanged("not NONE but " + v, Bounds.CROWD, x -> x.mark(1, 2, v), BAD);
            Bounds.unchanged("over NO NUMBER", Bounds.CROWD, x -> x.mark(1, 1, v), BAD);
        }
        DeadAir x = new DeadAir();
        x.sheet(1, 1, 3);
        Bounds.marks(x, 1, -99999, 99999, 0);
        is("as told", x, 1, -99999, 99999, 0);
        Due.due("NO NUMBER", x.mark(1, 2, NONE), 1);
        is("as told", x, 1, -99999, 99999, KIND);
        Due.due("a number again", x.mark(1, 2, -1), 1);
        is("as told", x, 1, -99999, 99999, -1);
    }

    /** Promise 32: "BAD; NOTHING." */
    private static void pourBounds() {
        Bounds.range("pour, all MISSING", Bounds.BARE, (x, v) -> x.pour(v), 0, 3, NOTHING);
        Bounds.range("pour, sheet", Bounds.CROWD, (x, v) -> x.pour(v), 0, 3, 3, 0);
        Bounds.unchanged("NOTHING", Bounds.CROWD, x -> x.pour(2), NOTHING);
    }

    /** Promise 32: "(each held within 1 .. 60 ..)". */
    private static void pourHeldWithin() {
        int[] v = {-99999, -1, 0, 1, 2, 59, 60, 61, 99999};
        int[] due = {1, 1, 1, 1, 2, 59, 60, 60, 60};
        for (int i = 0; i < v.length; i++) {
            DeadAir x = new DeadAir();
            x.voice(0, 30, 30);
            x.sheet(0, 1, 1);
            x.mark(0, 0, v[i]);
            Due.due("otherwise", x.pour(0), 1);
            Due.due("held: " + v[i], x.told(0, 1), due[i]);
        }
        DeadAir y = new DeadAir();
        Bounds.voices(y, 2, 0, 30, 30);
        y.sheet(0, 0, 2);
        Bounds.marks(y, 0, 32767, 32768);
        y.pour(0);
        Due.due("the highest short", y.told(0, 1), 60);
        Due.due("the lowest short", y.told(1, 1), 1);
    }

    /** Promise 32: "NO NUMBER, and beyond the SHEET: they stay". */
    private static void pourStay() {
        for (int n = 0; n <= 5; n++) {
            DeadAir x = new DeadAir();
            Bounds.voices(x, 5, 0, 30, 30);
            x.sheet(0, 0, n);
            for (int k = 0; k < n; k++) {
                x.mark(0, k, 40 + k);
            }
            Due.due("of " + n + " places", x.pour(0), n);
            for (int voice = 0; voice < 5; voice++) {
                Due.due("WAIT of " + voice, x.told(voice, 1), voice < n ? 40 + voice : 30);
            }
        }
        DeadAir y = new DeadAir();
        Bounds.voices(y, 5, 0, 30, 30);
        y.sheet(1, 1, 5);
        Bounds.marks(y, 1, NONE, 50, NONE, NONE, NONE);
        Due.due("one number", y.pour(1), 1);
        for (int voice = 0; voice < 5; voice++) {
            Due.due("NO NUMBER", y.told(voice, 1), voice == 1 ? 50 : 30);
        }
        // places beyond the voices are left out, and a voice who comes later has her own WAIT
        DeadAir z = new DeadAir();
        z.sheet(2, 0, 24);
        z.mark(2, 0, 9);
        Due.due("no VOICES", z.pour(2), 0);
        z.voice(0, 30, 30);
        Due.due("her own", z.told(0, 1), 30);
    }

    /** Promise 32: "how many are otherwise then". */
    private static void pourHowMany() {
        DeadAir x = new DeadAir();
        for (int i = 0; i < 5; i++) {
            x.voice(0, i == 4 ? 60 : 1 + i, 30);
        }
        x.sheet(0, 1, 5);
        Bounds.marks(x, 0, -5, 2, NONE, 9, 61);
        Due.due("held, it is as it was; so is 2, NO NUMBER, 61", x.pour(0), 1);
        Due.due("none again", x.pour(0), 0);
        Bounds.unchanged("nothing but WAIT", y -> {
            Bounds.CROWD.on(y);
            y.pour(0);
        }, y -> y.pour(0), 0);
    }

    /** Promise 33: "BAD; NOTHING". */
    private static void readsBounds() {
        Bounds.range("reads, all MISSING", Bounds.BARE, (x, v) -> x.reads(v), 0, 3, NOTHING);
        Bounds.range("reads, sheet", Bounds.CROWD, (x, v) -> x.reads(v), 0, 3, 0, NONE);
        Bounds.unchanged("NOTHING", Bounds.CROWD, x -> x.reads(2), NOTHING);
    }

    /** Promise 33: "The first place (of numbers alone) at which a SHEET is not SAID of that VOICE". */
    private static void readsFirstPlace() {
        DeadAir x = new DeadAir();
        Bounds.voices(x, 5, 5, 9, 9);
        x.speak(4, 1);
        x.sheet(0, 1, 5);
        Bounds.marks(x, 0, 0, 0, 0, 0, 1);
        Due.due("all are", x.reads(0), NONE);
        for (int k = 4; k >= 0; k--) {
            x.mark(0, k, 7);
            Due.due("the first that is not", x.reads(0), k);
        }
        x.mark(0, 0, NONE);
        Due.due("of numbers alone", x.reads(0), 1);
        Bounds.marks(x, 0, -1, NONE, NONE, NONE, NONE);
        Due.due("-1 is not 0", x.reads(0), 0);
        Bounds.marks(x, 0, 0, 0, 0, 0, 0);
        Due.due("1 less than SAID", x.reads(0), 4);
    }

    /** Promise 33: "(of places that are no VOICE all numbers are not)". */
    private static void readsNoVoice() {
        for (int many = 0; many < 5; many++) {
            DeadAir x = new DeadAir();
            Bounds.voices(x, many, 5, 9, 9);
            x.sheet(0, 0, many);
            Due.due("of VOICES alone", x.reads(0), NONE);
            x.sheet(0, 0, many + 1);
            Due.due("0 is no VOICE's", x.reads(0), many);
        }
        DeadAir y = new DeadAir();
        Bounds.voices(y, 5, 5, 9, 9);
        y.sheet(1, 1, 24);
        for (int k = 5; k < 24; k++) {
            y.mark(1, k, NONE);
        }
        Due.due("NO NUMBERS behind them", y.reads(1), NONE);
        y.mark(1, 23, 0);
        Due.due("in the last place", y.reads(1), 23);
    }

    /** Promise 33: "NONE: there is none." */
    private static void readsNone() {
        Bounds.unchanged("no places", Bounds.CROWD, x -> x.reads(3), NONE);
        DeadAir x = new DeadAir();
        x.sheet(0, 0, 0);
        Due.due("no places, no VOICES", x.reads(0), NONE);
        x.sheet(0, 1, 1);
        x.mark(0, 0, NONE);
        Due.due("no numbers, no VOICES", x.reads(0), NONE);
    }

    /** A short that wrapped is what it is then. */
    private static void readsShortsAndSaid() {
        DeadAir x = new DeadAir();
        x.voice(5, 9, 9);
        x.speak(0, 1);
        x.sheet(0, 0, 1);
        x.mark(0, 0, 65537);
        Due.due("1 is SAID", x.reads(0), NONE);
        x.mark(0, 0, 65536);
        Due.due("0 is not", x.reads(0), 0);
    }

    /** Promise 34: "BAD". */
    private static void copyBounds() {
        Bounds.range("copy, from, all MISSING", Bounds.BARE, (x, v) -> x.copy(v, 0, 0, 0, 0), 0, 3, NOTHING);
        Bounds.range("copy, to, all MISSING", Bounds.BARE, (x, v) -> x.copy(0, 0, v, 0, 0), 0, 3, NOTHING);
        Bounds.range("copy, from", Bounds.CROWD, (x, v) -> x.copy(v, 0, 0, 0, 0), 0, 3, 0);
        Bounds.range("copy, to", Bounds.CROWD, (x, v) -> x.copy(0, 0, v, 0, 0), 0, 3, 0);
        Bounds.unchanged("both", Bounds.CROWD, x -> x.copy(4, 0, -1, 0, 0), BAD);
    }

    private static void copyNothing() {
        Bounds.unchanged("from", Bounds.CROWD, x -> x.copy(2, 0, 0, 0, 1), NOTHING);
        Bounds.unchanged("to", Bounds.CROWD, x -> x.copy(0, 0, 2, 0, 1), NOTHING);
        Bounds.unchanged("both", Bounds.CROWD, x -> x.copy(2, 0, 2, 0, 0), NOTHING);
        Bounds.unchanged("ahead of INDEX", Bounds.CROWD, x -> x.copy(2, -1, 1, 99, -1), NOTHING);
    }

    /** Promise 34: "KIND: they are not of one sort". */
    private static void copyKind() {
        Bounds.unchanged("shorts to floats", Bounds.CROWD, x -> x.copy(0, 0, 1, 0, 1), KIND);
        Bounds.unchanged("floats to shorts", Bounds.CROWD, x -> x.copy(1, 0, 0, 0, 1), KIND);
        Bounds.unchanged("no places", Bounds.CROWD, x -> x.copy(1, 0, 3, 0, 0), KIND);
        Bounds.unchanged("ahead of INDEX", Bounds.CROWD, x -> x.copy(0, -1, 1, 9, -1), KIND);
    }

    private static void twoRows(DeadAir x) {
        x.sheet(0, 0, 5);
        Bounds.marks(x, 0, 1, 2, 3, 4, 5);
        x.sheet(1, 0, 3);
        Bounds.marks(x, 1, 7, 8, 9);
    }

    /** Promise 34: "INDEX". */
    private static void copyIndex() {
        int[][] beyond = {
            {-1, 0, 1}, {5, 0, 1}, {4, 0, 2}, {3, 0, 3}, {6, 0, 0}, {-1, 0, 0}, {MIN, 0, 1}, {MAX, 0, 1},
            {0, -1, 1}, {0, 3, 1}, {0, 2, 2}, {0, 1, 3}, {0, 4, 0}, {0, -1, 0}, {0, MIN, 1}, {0, MAX, 1},
            {0, 0, 4}, {0, 0, 5}, {0, 0, 6}, {0, 0, -1}, {0, 0, MIN}, {0, 0, MAX}, {1, 1, MAX},
            {1, 1, MIN}, {MAX, MAX, MAX}, {MIN, MIN, MIN}, {MAX, 0, MIN}, {5, 3, -1}};
        for (int[] b : beyond) {
            Bounds.unchanged("INDEX of " + b[0] + ", " + b[1] + ", " + b[2], BoundsSheetsTest::twoRows,
                x -> x.copy(0, b[0], 1, b[1], b[2]), INDEX);
        }
        Bounds.unchanged("within one row", BoundsSheetsTest::twoRows, x -> x.copy(0, 0, 0, 1, 5), INDEX);
        Bounds.unchanged("of no places", Bounds.CROWD, x -> x.copy(3, 0, 3, 0, 1), INDEX);
        // a place that a longer row once had is none
        DeadAir y = Bounds.made(BoundsSheetsTest::twoRows);
        y.sheet(0, 0, 2);
        Due.due("gone", y.copy(0, 0, 1, 0, 3), INDEX);
    }

    private static void copyNoPlaces() {
        int[][] ends = {{0, 0}, {5, 0}, {0, 3}, {5, 3}, {2, 1}};
        for (int[] e : ends) {
            Bounds.unchanged("no places, from " + e[0] + " to " + e[1], BoundsSheetsTest::twoRows,
                x -> x.copy(0, e[0], 1, e[1], 0), 0);
        }
        Bounds.unchanged("of no places", Bounds.CROWD, x -> x.copy(3, 0, 3, 0, 0), 0);
    }

    private static void copyAllPlaces() {
        DeadAir x = Bounds.made(BoundsSheetsTest::twoRows);
        Due.due("as many as it has", x.copy(0, 2, 1, 0, 3), 3);
        is("all", x, 1, 3, 4, 5);
        is("from stays", x, 0, 1, 2, 3, 4, 5);
        DeadAir y = new DeadAir();
        y.sheet(0, 1, 24);
        y.sheet(1, 1, 24);
        for (int k = 0; k < 24; k++) {
            y.mark(0, k, k == 11 ? NONE : k - 99999);
        }
        Due.due("24", y.copy(0, 0, 1, 0, 24), 24);
        for (int k = 0; k < 24; k++) {
            Due.due("place " + k, place(y, 1, k), k == 11 ? KIND : k - 99999);
        }
        Due.due("25", y.copy(0, 0, 1, 0, 25), INDEX);
        DeadAir z = Bounds.made(BoundsSheetsTest::twoRows);
        Due.due("the last to the last", z.copy(0, 4, 1, 2, 1), 1);
        is("one", z, 1, 7, 8, 5);
    }

    /** Promise 34: "(or the same), as they were". */
    private static void copyAsTheyWere() {
        DeadAir x = Bounds.made(BoundsSheetsTest::twoRows);
        Due.due("up", x.copy(0, 0, 0, 1, 4), 4);
        is("up", x, 0, 1, 1, 2, 3, 4);
        DeadAir y = Bounds.made(BoundsSheetsTest::twoRows);
        Due.due("down", y.copy(0, 1, 0, 0, 4), 4);
        is("down", y, 0, 2, 3, 4, 5, 5);
        Bounds.unchanged("to where they are", BoundsSheetsTest::twoRows, z -> z.copy(0, 0, 0, 0, 5), 5);
    }

    /** "SLOTS 0 .. 4"; promise 35: "BAD: slot, thing, k". */
    private static void layBounds() {
        Bounds.range("lay, slot 0 .. 4", Bounds.CROWD, (x, v) -> x.lay(v, 3, 1), 0, 4, 1, 0);
        Bounds.range("lay, thing 0 .. 3", Bounds.CROWD, (x, v) -> x.lay(1, v, 0), 0, 3, 2);
        Bounds.range("lay, VOICE k", Bounds.CROWD, (x, v) -> x.lay(2, 1, v), 0, 4, 3);
        Bounds.range("lay, VOICE k of three", Bounds.ROOM, (x, v) -> x.lay(2, 1, v), 0, 2, 3);
        Bounds.range("lay, SHEET k", Bounds.CROWD, (x, v) -> x.lay(2, 2, v), 0, 3, 3);
        Bounds.unchanged("no VOICES", Bounds.BARE, x -> x.lay(0, 1, 0), BAD);
        for (int k : new int[] {MIN, -1, 0, 5, MAX, NONE}) {
            Due.due("any number", Bounds.made(Bounds.CROWD).lay(0, 3, k), 1);
            Due.due("nothing, any k", Bounds.made(Bounds.CROWD).lay(0, 0, k), 1);
        }
    }

    /** Promise 35: "what it held (0 .. 3)". */
    private static void layWhatItHeld() {
        for (int slot = 0; slot < 5; slot++) {
            for (int before = 0; before < 4; before++) {
                for (int thing = 0; thing < 4; thing++) {
                    DeadAir x = new DeadAir();
                    x.voice(0, 9, 9);
                    x.sheet(0, 0, 1);
                    x.lay(slot, before, 0);
                    Due.due("it held " + before, x.lay(slot, thing, 0), before);
                    Due.due("it holds " + thing, x.lay(slot, 0, 0), thing);
                    Due.due("then nothing", x.lay(slot, 0, 0), 0);
                }
            }
        }
    }

    /** Promise 35: "NOTHING: that SHEET is MISSING." */
    private static void layNothing() {
        for (int slot = 0; slot < 5; slot++) {
            int s = slot;
            Bounds.unchanged("MISSING", Bounds.CROWD, x -> x.lay(s, 2, 2), NOTHING);
        }
        Bounds.unchanged("all are MISSING", Bounds.BARE, x -> x.lay(0, 2, 0), NOTHING);
        Due.due("0 places are not MISSING", Bounds.made(Bounds.CROWD).lay(0, 2, 3), 1);
    }

    /** "a VOICE (as she is then, for good)". */
    private static void layForGood() {
        DeadAir x = new DeadAir();
        x.voice(1, 9, 60);
        x.lay(0, 1, 0);
        x.set(0, 2, 1);
        x.turns(0, 4);
        Due.due("HOST of TALK 60", x.ask(0, 1), 69);
        Due.due("no SHY", x.ask(0, 4), KIND);
        DeadAir y = new DeadAir();
        y.keep();
        y.voice(3, 9, 60);
        y.lay(0, 1, 0);
        y.back();
        Due.due("she is not there any more", y.told(0, 0), BAD);
        Due.due("but in the SLOT", y.ask(0, 3), 138);
        y.voice(5, 1, 1);
        Due.due("nor is she the new one", y.ask(0, 3), 138);
    }

    /** "a SHEET (a row of its own, as it was then)". */
    private static void layRowOfItsOwn() {
        DeadAir x = new DeadAir();
        x.sheet(0, 1, 2);
        Bounds.marks(x, 0, 5, NONE);
        x.lay(0, 2, 0);
        x.mark(0, 0, 6);
        Due.due("as it was", x.item(0, 0), 5);
        x.sheet(0, 0, 24);
        Due.due("as it was", x.item(0, 0), 5);
        Due.due("NO NUMBER still", x.item(0, 1), KIND);
        Due.due("no longer than it was", x.item(0, 2), INDEX);
        x.sheet(0, -1, 0);
        Due.due("as it was", x.item(0, 0), 5);
        x.sheet(1, 0, 1);
        x.mark(1, 0, 8);
        x.lay(1, 2, 1);
        x.lay(2, 2, 1);
        x.copy(1, 0, 1, 0, 1);
        x.mark(1, 0, 9);
        x.lay(1, 2, 1);
        Due.due("laid anew", x.item(1, 0), 9);
        Due.due("the other SLOT's is its own", x.item(2, 0), 8);
    }

    /** Promise 36: "of a KIND (0 .. 5). BAD; NOTHING". */
    private static void askBounds() {
        Bounds.range("ask, slot 0 .. 4", Bounds.CROWD, (x, v) -> x.ask(v, 0), 0, 4, 69, NOTHING);
        Bounds.range("ask, kind 0 .. 5", Bounds.CROWD, (x, v) -> x.ask(0, v), 0, 5, 69, KIND);
        Bounds.range("ask, kind, of nothing", Bounds.CROWD, (x, v) -> x.ask(4, v), 0, 5, NOTHING);
        Bounds.range("ask, kind, of a number", Bounds.CROWD, (x, v) -> x.ask(2, v), 0, 5, KIND);
        Bounds.range("ask, kind, of a SHEET", Bounds.CROWD, (x, v) -> x.ask(1, v), 0, 5, KIND);
        Bounds.range("ask, slot, all empty", Bounds.BARE, (x, v) -> x.ask(v, 0), 0, 4, NOTHING);
    }

    /** Promise 36: "KIND: it is no VOICE, or not of that KIND, nor of one under it." */
    private static void askKind() {
        int[][] of = {{1, 0, 0, 0, 0, 0}, {1, 1, 0, 0, 0, 0}, {1, 0, 1, 0, 0, 0},
            {1, 1, 0, 1, 0, 0}, {1, 0, 1, 0, 1, 0}, {1, 0, 0, 0, 0, 1}};
        int[] worth = {60, 69, 39, 138, 32, 3};
        for (int kind = 0; kind < 6; kind++) {
            DeadAir x = new DeadAir();
            x.voice(kind, 1, 60);
            x.lay(4, 1, 0);
            for (int wanted = 0; wanted < 6; wanted++) {
                Due.due("kind " + kind + " for " + wanted, x.ask(4, wanted),
                    of[kind][wanted] == 1 ? worth[kind] : KIND);
            }
        }
    }

    /** "WORTH of the VOICE .., taken for one of a KIND": her own WORTH. */
    private static void askAsSheIs() {
        DeadAir x = new DeadAir();
        x.voice(4, 1, 1);
        x.lay(0, 1, 0);
        Due.due("for a VOICE", x.ask(0, 0), 91);
        Due.due("for a GUEST", x.ask(0, 2), 91);
        Due.due("for a SHY one", x.ask(0, 4), 91);
    }

    /** Promise 37: "BAD: slot; NOTHING; KIND: it is no SHEET". */
    private static void itemBounds() {
        Bounds.range("item, slot 0 .. 4", Bounds.CROWD, (x, v) -> x.item(v, 0), 0, 4, KIND, NOTHING);
        Bounds.range("item, slot, all empty", Bounds.BARE, (x, v) -> x.item(v, 0), 0, 4, NOTHING);
        for (int place : new int[] {0, -1, 24, MIN, MAX}) {
            Bounds.unchanged("NOTHING ahead of INDEX", Bounds.CROWD, x -> x.item(4, place), NOTHING);
            Bounds.unchanged("a VOICE", Bounds.CROWD, x -> x.item(0, place), KIND);
            Bounds.unchanged("a number", Bounds.CROWD, x -> x.item(2, place), KIND);
        }
    }

    /** Promise 37: "INDEX". */
    private static void itemIndex() {
        for (int place : new int[] {-1, 3, MIN, MAX}) {
            Bounds.unchanged("INDEX " + place, Bounds.CROWD, x -> x.item(1, place), INDEX);
        }
        Due.due("the first", Bounds.made(Bounds.CROWD).item(1, 0), 5);
        Due.due("the last", Bounds.made(Bounds.CROWD).item(1, 2), 30000);
        DeadAir x = new DeadAir();
        x.sheet(0, 0, 0);
        x.lay(0, 2, 0);
        Due.due("no places", x.item(0, 0), INDEX);
        x.sheet(0, 0, 24);
        x.lay(0, 2, 0);
        Due.due("the last of 24", x.item(0, 23), 0);
        Due.due("the 25th", x.item(0, 24), INDEX);
    }

    /** Promise 37: "KIND: NO NUMBER." */
    private static void itemNoNumber() {
        Bounds.unchanged("NO NUMBER", Bounds.CROWD, x -> x.item(3, 1), KIND);
        Bounds.unchanged("a number beside it", Bounds.CROWD, x -> x.item(3, 0), 99999);
        Bounds.unchanged("INDEX beside it", Bounds.CROWD, x -> x.item(3, 4), INDEX);
    }

    /** Promise 38: "BAD: slot; NOTHING; KIND: it is no number; NO: n is 0." */
    private static void restBounds() {
        for (int n : new int[] {0, 1}) {
            Bounds.range("rest, slot 0 .. 4", Bounds.CROWD, (x, v) -> x.rest(v, n), 0, 4, KIND, NOTHING);
            Bounds.range("rest, slot, all empty", Bounds.BARE, (x, v) -> x.rest(v, n), 0, 4, NOTHING);
            Bounds.unchanged("NOTHING", Bounds.CROWD, x -> x.rest(4, n), NOTHING);
            Bounds.unchanged("a VOICE", Bounds.CROWD, x -> x.rest(0, n), KIND);
            Bounds.unchanged("a SHEET", Bounds.CROWD, x -> x.rest(1, n), KIND);
            Bounds.unchanged("a number", Bounds.CROWD, x -> x.rest(2, n), n == 0 ? NO : 0);
        }
    }

    /** Promise 38: "The rest of the number in a SLOT by n." */
    private static void restOfAnyNumber() {
        int[][] due = {{7, 3, 1}, {7, -3, 1}, {-7, 3, -1}, {-7, -3, -1}, {0, 5, 0}, {6, 3, 0},
            {2, 3, 2}, {7, 1, 0}, {7, -1, 0}, {MIN, -1, 0}, {MIN, 1, 0}, {MIN, MIN, 0}, {MIN, MAX, -1},
            {MAX, MIN, MAX}, {MAX, MAX, 0}, {-1, MIN, -1}, {NONE, MIN, NONE}};
        for (int[] d : due) {
            DeadAir x = new DeadAir();
            x.lay(4, 3, d[0]);
            Due.due(d[0] + " by " + d[1], x.rest(4, d[1]), d[2]);
            Due.due("by 0", x.rest(4, 0), NO);
        }
    }
}
