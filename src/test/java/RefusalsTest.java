/**
 * "A call that is refused answers .. of several the one that stands first with it, and changes
 * nothing": each call that has several refusals, with two of them or more at once.
 */
public final class RefusalsTest {
    private static final int BAD = DeadAir.BAD, NO = DeadAir.NO, FULL = DeadAir.FULL,
        NONE = DeadAir.NONE, NOTHING = DeadAir.NOTHING, KIND = DeadAir.KIND, INDEX = DeadAir.INDEX,
        SIZE = DeadAir.SIZE;

    private RefusalsTest() {
    }

    public static void main(String[] args) {
        voice();
        as();
        nextHoleApart();
        whose();
        text();
        why();
        sheet();
        mark();
        pourReads();
        copy();
        lay();
        ask();
        item();
        rest();
        check();
        Due.end();
    }

    private static void crowd(String call, Bounds.Call asked, int due) {
        Bounds.unchanged(call, Bounds.CROWD, asked, due);
    }

    private static void bare(String call, Bounds.Call asked, int due) {
        Bounds.unchanged(call, Bounds.BARE, asked, due);
    }

    /** "BAD; FULL." */
    private static void voice() {
        crowd("FULL", x -> x.voice(0, 1, 1), FULL);
        crowd("KIND, FULL", x -> x.voice(6, 1, 1), BAD);
        crowd("WAIT, FULL", x -> x.voice(0, 0, 1), BAD);
        crowd("TALK, FULL", x -> x.voice(0, 1, 61), BAD);
        crowd("all", x -> x.voice(-1, 61, 0), BAD);
    }

    /** "BAD: voice, kind; KIND". */
    private static void as() {
        crowd("KIND", x -> x.as(0, 1), KIND);
        crowd("voice, though no VOICE is of that KIND", x -> x.as(5, 5), BAD);
        crowd("kind", x -> x.as(0, 6), BAD);
        crowd("voice and kind", x -> x.as(-1, -1), BAD);
    }

    /** "BAD; NONE". */
    private static void nextHoleApart() {
        bare("next: NONE", x -> x.next(0), NONE);
        bare("next: BAD, NONE", x -> x.next(2), BAD);
        Bounds.Script busy = x -> {
            x.voice(5, 9, 9);
            x.air(1, 1);
        };
        Bounds.unchanged("hole: NONE", busy, x -> x.hole(200), NONE);
        Bounds.unchanged("hole: BAD, NONE", busy, x -> x.hole(201), BAD);
        Bounds.Script crossing = x -> {
            Bounds.voices(x, 2, 5, 1, 60);
            x.tenths(60);
            x.turns(0, 1);
            x.turns(1, 1);
        };
        Bounds.unchanged("apart: NONE", crossing, x -> x.apart(0, 1, 1), NONE);
        Bounds.unchanged("apart: n, NONE", crossing, x -> x.apart(0, 1, 61), BAD);
        Bounds.unchanged("apart: n, NONE", crossing, x -> x.apart(0, 1, 0), BAD);
        Bounds.unchanged("apart: the same, NONE", crossing, x -> x.apart(0, 0, 1), BAD);
        Bounds.unchanged("apart: no such one", crossing, x -> x.apart(2, 1, 1), BAD);
        Bounds.unchanged("apart: no such other one", crossing, x -> x.apart(0, 2, 1), BAD);
        Bounds.unchanged("apart: the same, and no such one", crossing, x -> x.apart(2, 2, 1), BAD);
    }

    /** "BAD; NOTHING; NONE". */
    private static void whose() {
        bare("NOTHING, NONE", x -> x.whose(0, 0), NOTHING);
        bare("sheet, NONE", x -> x.whose(4, 0), BAD);
        bare("what, NOTHING, NONE", x -> x.whose(0, 2), BAD);
        Bounds.unchanged("NONE", x -> x.sheet(0, 0, 1), x -> x.whose(0, 0), NONE);
        Bounds.unchanged("what, NONE", x -> x.sheet(0, 0, 1), x -> x.whose(0, -1), BAD);
        crowd("NOTHING", x -> x.whose(2, 0), NOTHING);
        crowd("what, NOTHING", x -> x.whose(2, 2), BAD);
    }

    /** "-100 less the place of its FAULT; FULL." */
    private static void text() {
        Bounds.Script full = x -> {
            for (int i = 0; i < 14; i++) {
                Due.text(x, "fee " + i);
            }
        };
        String[] texts = {"fee 1", "fee 1+", "1", ""};
        int[] due = {FULL, -106, -100, -100};
        for (int i = 0; i < texts.length; i++) {
            DeadAir x = Bounds.made(full);
            Due.due("'" + texts[i] + "', FULL", Due.text(x, texts[i]), due[i]);
            Bounds.same("but THE TAPE", x, Bounds.made(full));
        }
    }

    /** "BAD; NONE." */
    private static void why() {
        bare("NONE", x -> x.why(2), NONE);
        bare("BAD, NONE", x -> x.why(3), BAD);
        bare("BAD, NONE", x -> x.why(-1), BAD);
    }

    /** "BAD: sheet, sort, n above 24; SIZE." */
    private static void sheet() {
        crowd("SIZE", x -> x.sheet(0, 0, -1), SIZE);
        crowd("sheet, SIZE", x -> x.sheet(4, 0, -1), BAD);
        crowd("sheet, SIZE", x -> x.sheet(-1, 1, -1), BAD);
        crowd("sort, SIZE", x -> x.sheet(0, 2, -1), BAD);
        crowd("sort, SIZE", x -> x.sheet(0, -2, -1), BAD);
        crowd("sheet, though MISSING is asked for", x -> x.sheet(4, -1, -1), BAD);
        crowd("n above 24", x -> x.sheet(0, 1, 25), BAD);
    }

    /** "BAD: sheet; NOTHING; INDEX; KIND: NONE in a row of shorts; BAD: v of floats." */
    private static void mark() {
        bare("sheet, NOTHING", x -> x.mark(4, 0, 0), BAD);
        crowd("NOTHING, INDEX, KIND", x -> x.mark(2, -1, NONE), NOTHING);
        crowd("NOTHING, INDEX, v", x -> x.mark(2, 24, 100000), NOTHING);
        crowd("INDEX, KIND", x -> x.mark(0, 3, NONE), INDEX);
        crowd("INDEX, KIND", x -> x.mark(3, 0, NONE), INDEX);
        crowd("INDEX, v", x -> x.mark(1, 4, 100000), INDEX);
        crowd("INDEX, v", x -> x.mark(1, -1, -100000), INDEX);
        crowd("KIND", x -> x.mark(0, 0, NONE), KIND);
        crowd("v", x -> x.mark(1, 0, 100000), BAD);
    }

    /** "BAD; NOTHING." and "BAD; NOTHING; NONE". */
    private static void pourReads() {
        bare("pour: sheet, NOTHING", x -> x.pour(4), BAD);
        bare("reads: sheet, NOTHING", x -> x.reads(-1), BAD);
        bare("pour: NOTHING, no VOICES", x -> x.pour(3), NOTHING);
        bare("reads: NOTHING, no VOICES", x -> x.reads(3), NOTHING);
        crowd("reads: NONE", x -> x.reads(3), NONE);
    }

    /** "BAD; NOTHING; KIND: they are not of one sort; INDEX." */
    private static void copy() {
        crowd("from, to NOTHING", x -> x.copy(4, 0, 2, 0, 1), BAD);
        crowd("from NOTHING, to", x -> x.copy(2, 0, 4, 0, 1), BAD);
        crowd("from, INDEX", x -> x.copy(-1, -1, 0, 0, 1), BAD);
        crowd("NOTHING, INDEX", x -> x.copy(2, -1, 0, 9, 99), NOTHING);
        crowd("NOTHING, INDEX", x -> x.copy(1, -1, 2, 9, 99), NOTHING);
        crowd("KIND, INDEX", x -> x.copy(0, 3, 1, 4, 1), KIND);
        crowd("KIND, INDEX", x -> x.copy(1, 0, 3, 0, 1), KIND);
        crowd("KIND, many below 0", x -> x.copy(0, 0, 1, 0, -1), KIND);
        crowd("INDEX", x -> x.copy(0, 0, 3, 0, 1), INDEX);
        crowd("many below 0", x -> x.copy(0, 0, 0, 0, -1), INDEX);
    }

    /** "BAD: slot, thing, k; NOTHING". */
    private static void lay() {
        crowd("NOTHING", x -> x.lay(0, 2, 2), NOTHING);
        crowd("slot, NOTHING", x -> x.lay(5, 2, 2), BAD);
        crowd("slot, nothing to lay", x -> x.lay(-1, 0, 0), BAD);
        crowd("slot, a number", x -> x.lay(5, 3, 0), BAD);
        crowd("thing", x -> x.lay(0, 4, 0), BAD);
        crowd("thing", x -> x.lay(0, -1, 0), BAD);
        crowd("k, no VOICE", x -> x.lay(0, 1, 5), BAD);
        crowd("k, no SHEET", x -> x.lay(0, 2, 4), BAD);
        bare("k, no SHEET, all MISSING", x -> x.lay(0, 2, -1), BAD);
    }

    /** "BAD; NOTHING; KIND". */
    private static void ask() {
        crowd("NOTHING", x -> x.ask(4, 5), NOTHING);
        crowd("kind, NOTHING", x -> x.ask(4, 6), BAD);
        crowd("kind, no VOICE", x -> x.ask(2, 6), BAD);
        crowd("kind, no VOICE", x -> x.ask(1, -1), BAD);
        crowd("slot, kind", x -> x.ask(5, 6), BAD);
        crowd("no VOICE", x -> x.ask(2, 0), KIND);
        crowd("not of that KIND", x -> x.ask(0, 1), KIND);
    }

    /** "BAD: slot; NOTHING; KIND: it is no SHEET; INDEX; KIND: NO NUMBER." */
    private static void item() {
        crowd("slot, INDEX", x -> x.item(5, -1), BAD);
        crowd("NOTHING, INDEX", x -> x.item(4, -1), NOTHING);
        crowd("no SHEET, INDEX", x -> x.item(0, -1), KIND);
        crowd("no SHEET, INDEX", x -> x.item(2, 99), KIND);
        crowd("INDEX", x -> x.item(3, 4), INDEX);
        crowd("NO NUMBER", x -> x.item(3, 1), KIND);
    }

    /** "BAD: slot; NOTHING; KIND: it is no number; NO: n is 0." */
    private static void rest() {
        crowd("slot, NO", x -> x.rest(5, 0), BAD);
        crowd("NOTHING, NO", x -> x.rest(4, 0), NOTHING);
        crowd("no number, NO", x -> x.rest(0, 0), KIND);
        crowd("no number, NO", x -> x.rest(1, 0), KIND);
        crowd("NO", x -> x.rest(2, 0), NO);
    }

    /** "BAD; NO: there is no IMAGE." */
    private static void check() {
        bare("BAD, NO", x -> x.check(0), BAD);
        bare("BAD, NO", x -> x.check(31), BAD);
        bare("NO", x -> x.check(30), NO);
        bare("back: NO", x -> x.back(), NO);
    }
}
