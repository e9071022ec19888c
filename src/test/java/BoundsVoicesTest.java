/** "1 THE STUDIO" and promises 1 to 11 at their bounds: a test for each sentence that names one. */
public final class BoundsVoicesTest {
    private static final int BAD = DeadAir.BAD, FULL = DeadAir.FULL, KIND = DeadAir.KIND;
    private static final int MIN = Integer.MIN_VALUE, MAX = Integer.MAX_VALUE;

    private BoundsVoicesTest() {
    }

    public static void main(String[] args) {
        studioAtFirst();
        voicesAtFirst();
        voicesAtFirstWhereOneWas();
        hostWaits();
        leadWaits();
        guestAndShyWait();
        pauseIfSheIsLast();
        backAtItsMost();
        talks();
        yields();
        worth();
        newObject();
        voiceBad();
        voiceFull();
        told();
        asBad();
        asKind();
        turns();
        setBounds();
        setWas();
        speakBounds();
        speakWhateverSheDid();
        hushBounds();
        hushIfNotZero();
        airBounds();
        airWas();
        dealBounds();
        dealAsManyAsThereIsRoom();
        dealNoDrawsForOthers();
        drawnVoicesAtTheirEnds();
        seed();
        Due.end();
    }

    /** "(1000 at first)", "(110 at first; 0: no device)", "(0 at first: no jingle)", "are 0 at first". */
    private static void studioAtFirst() {
        DeadAir x = new DeadAir();
        Due.due("LISTENERS 1000 at first", x.air(0, 0), 1000);
        Due.due("CUT 110 at first", x.air(1, 0), 110);
        Due.due("FILL 0 at first", x.air(2, 1), 0);
        DeadAir y = new DeadAir();
        String[] names = {"SILENCE", "SILENT", "HOLE", "BREATHS", "TURNS", "CROSSED", "JINGLES", "CUTS"};
        for (int i = 0; i < names.length; i++) {
            Due.due(names[i] + " 0 at first", y.studio(1 + i), 0);
        }
        Due.due("LAST: none (-1, at first)", y.studio(9), -1);
        Due.due("THE TENTH is 0 at first", y.count(1), 0);
        Due.due("z is told (1 at first)", y.seed(1), 1);
    }

    /** "PAUSE 0 .. 40 (0 at first ..)", "LEFT (.. 0 at first: she doesn't speak), BACK, SAID (..)". */
    private static void voicesAtFirst() {
        for (int kind = 0; kind < 6; kind++) {
            DeadAir x = new DeadAir();
            x.voice(kind, 60, 60);
            for (int what = 3; what <= 6; what++) {
                Due.due("0 at first: kind " + kind + " what " + what, x.told(0, what), 0);
            }
            Due.due("she doesn't speak", x.studio(10), 0);
            Due.due("nor is she LAST", x.studio(9), -1);
        }
    }

    /** Nothing of a VOICE who is gone with an image lives on in the next one of her number. */
    private static void voicesAtFirstWhereOneWas() {
        for (int drawn = 0; drawn < 2; drawn++) {
            DeadAir x = new DeadAir();
            x.keep();
            x.seed(Bounds.seedFor(1, 6, 5));
            Bounds.voices(x, 2, 0, 9, 60);
            x.tenths(9);
            x.set(0, 3, 40);
            x.speak(0, 60);
            for (int what = 3; what <= 6; what++) {
                Due.holds("not 0 any more: " + what, x.told(0, what) > 0);
            }
            x.back();
            if (drawn == 1) {
                x.deal(1);
            } else {
                x.voice(1, 60, 60);
            }
            for (int what = 3; what <= 6; what++) {
                Due.due("0 at first: what " + what, x.told(0, what), 0);
            }
        }
    }

    private static int waits(int kind, int wait) {
        DeadAir x = new DeadAir();
        x.voice(kind, wait, 30);
        return x.told(0, 7);
    }

    /** "HOST: as VOICE, less 2 (1 at least)." */
    private static void hostWaits() {
        int[] due = {1, 1, 1, 2, 3};
        for (int wait = 1; wait <= 5; wait++) {
            Due.due("HOST, WAIT " + wait, waits(1, wait), due[wait - 1]);
        }
        Due.due("HOST, WAIT 60", waits(1, 60), 58);
    }

    /** "LEAD: half (cut) of as HOST (1 at least)." */
    private static void leadWaits() {
        int[] due = {1, 1, 1, 1, 1, 2, 2, 3};
        for (int wait = 1; wait <= 8; wait++) {
            Due.due("LEAD, WAIT " + wait, waits(3, wait), due[wait - 1]);
        }
        Due.due("LEAD, WAIT 59", waits(3, 59), 28);
        Due.due("LEAD, WAIT 60", waits(3, 60), 29);
    }

    /** "GUEST: as VOICE, and 3. SHY: twice as GUEST." and QUIET "does as the one above it". */
    private static void guestAndShyWait() {
        int[] kinds = {0, 2, 4, 5};
        int[] least = {1, 4, 8, 1};
        int[] most = {60, 63, 126, 60};
        for (int i = 0; i < 4; i++) {
            Due.due("WAIT 1 of kind " + kinds[i], waits(kinds[i], 1), least[i]);
            Due.due("WAIT 60 of kind " + kinds[i], waits(kinds[i], 60), most[i]);
        }
    }

    /** "WAIT, and BACK, and PAUSE, if she is LAST." */
    private static void pauseIfSheIsLast() {
        int[] alone = {60, 58, 63, 29, 126, 60};
        int[] last = {100, 98, 103, 49, 206, 100};
        for (int kind = 0; kind < 6; kind++) {
            DeadAir x = new DeadAir();
            Bounds.voices(x, 2, kind, 60, 60);
            x.set(0, 3, 40);
            x.set(1, 3, 40);
            Due.due("none is LAST: kind " + kind, x.told(0, 7), alone[kind]);
            x.speak(0, 1);
            Due.due("she speaks and is not LAST yet", x.told(0, 7), alone[kind]);
            x.hush(0);
            Due.due("she is LAST: kind " + kind, x.told(0, 7), last[kind]);
            Due.due("another one is not", x.told(1, 7), alone[kind]);
            x.speak(1, 1);
            x.hush(1);
            Due.due("no longer LAST: kind " + kind, x.told(0, 7), alone[kind]);
            Due.due("but the other one: kind " + kind, x.told(1, 7), last[kind]);
        }
    }

    /** WAIT 60, BACK 5, PAUSE 40, all at their most. */
    private static void backAtItsMost() {
        DeadAir x = new DeadAir();
        x.air(1, 0);
        x.seed(Bounds.seedFor(1, 6, 5));
        Bounds.voices(x, 2, 0, 60, 60);
        x.tenths(60);
        Due.due("BACK is 5", x.told(0, 5), 5);
        x.set(0, 3, 40);
        x.speak(0, 1);
        x.hush(0);
        int[] due = {105, 103, 108, 51, 216, 105};
        for (int kind = 0; kind < 6; kind++) {
            x.turns(0, kind);
            Due.due("all at their most: kind " + kind, x.told(0, 7), due[kind]);
        }
    }

    /** "TALKS: VOICE: TALK. LEAD: as HOST, and 5. GUEST: half (cut) of as VOICE, and 1. QUIET: 1." */
    private static void talks() {
        int[][] due = {{1, 2, 3, 59, 60}, {1, 2, 3, 59, 60}, {1, 2, 2, 30, 31}, {6, 7, 8, 64, 65},
            {1, 2, 2, 30, 31}, {1, 1, 1, 1, 1}};
        int[] talk = {1, 2, 3, 59, 60};
        for (int kind = 0; kind < 6; kind++) {
            for (int i = 0; i < talk.length; i++) {
                DeadAir x = new DeadAir();
                x.voice(kind, 1, talk[i]);
                Due.due("TALK " + talk[i] + " of kind " + kind, x.told(0, 8), due[kind][i]);
            }
        }
    }

    /** "YIELDS: VOICE: yes. HOST: no." */
    private static void yields() {
        int[] due = {1, 0, 1, 0, 1, 1};
        for (int kind = 0; kind < 6; kind++) {
            DeadAir x = new DeadAir();
            x.voice(kind, 1, 1);
            Due.due("YIELDS: kind " + kind, x.told(0, 9), due[kind]);
        }
    }

    /** "WORTH: VOICE: TALK. HOST: as VOICE, and 9. LEAD: twice as HOST. GUEST: 99 less TALK. .." */
    private static void worth() {
        int[] least = {1, 10, 98, 20, 91, 3};
        int[] most = {60, 69, 39, 138, 32, 3};
        for (int kind = 0; kind < 6; kind++) {
            DeadAir x = new DeadAir();
            x.voice(kind, 1, 1);
            x.voice(kind, 1, 60);
            Due.due("WORTH of TALK 1, kind " + kind, x.told(0, 10), least[kind]);
            Due.due("WORTH of TALK 60, kind " + kind, x.told(1, 10), most[kind]);
        }
    }

    /** Promise 1: "As told; no VOICES." */
    private static void newObject() {
        DeadAir x = new DeadAir();
        Due.due("no VOICES", x.count(0), 0);
        Due.due("no VOICE 0", x.told(0, 0), BAD);
        Due.due("no TEXTS", x.count(3), 0);
        Due.due("no numbers wait", x.count(4), 0);
        Due.due("no bytes", x.count(5), 0);
        Due.due("no IMAGE", x.back(), DeadAir.NO);
        for (int sheet = 0; sheet < 4; sheet++) {
            Due.due("MISSING (at first): " + sheet, x.pour(sheet), DeadAir.NOTHING);
        }
        for (int slot = 0; slot < 5; slot++) {
            Due.due("nothing (at first): " + slot, x.lay(slot, 0, 0), 0);
        }
        // one object knows nothing of another
        Bounds.made(Bounds.CROWD);
        Bounds.same("new behind another one", new DeadAir(), x);
    }

    /** Promise 2: "BAD". */
    private static void voiceBad() {
        for (Bounds.Script setup : new Bounds.Script[] {Bounds.BARE, Bounds.ROOM}) {
            int due = Bounds.made(setup).count(0);
            Bounds.range("voice, KIND 0 .. 5", setup, (x, v) -> x.voice(v, 9, 9), 0, 5, due);
            Bounds.range("voice, WAIT 1 .. 60", setup, (x, v) -> x.voice(4, v, 9), 1, 60, due);
            Bounds.range("voice, TALK 1 .. 60", setup, (x, v) -> x.voice(3, 9, v), 1, 60, due);
        }
        DeadAir x = new DeadAir();
        x.voice(0, 1, 60);
        x.voice(5, 60, 1);
        int[][] due = {{0, 1, 60}, {5, 60, 1}};
        for (int voice = 0; voice < 2; voice++) {
            for (int what = 0; what < 3; what++) {
                Due.due("as she came", x.told(voice, what), due[voice][what]);
            }
        }
    }

    /** "VOICES, 5 at most, numbered from 0", promise 2: "FULL". */
    private static void voiceFull() {
        DeadAir x = new DeadAir();
        for (int i = 0; i < 5; i++) {
            Due.due("numbered from 0", x.voice(0, 1 + i, 60), i);
            Due.due("so many", x.count(0), i + 1);
        }
        Due.due("a sixth", x.voice(0, 1, 1), FULL);
        Bounds.unchanged("FULL", Bounds.CROWD, y -> y.voice(0, 1, 1), FULL);
        int[][] bad = {{-1, 1, 1}, {6, 1, 1}, {0, 0, 1}, {0, 61, 1}, {0, 1, 0}, {0, 1, 61}};
        for (int[] b : bad) {
            Bounds.unchanged("BAD stands ahead of FULL", Bounds.CROWD, y -> y.voice(b[0], b[1], b[2]), BAD);
        }
        // behind an image of fewer there is room again
        DeadAir z = new DeadAir();
        Bounds.voices(z, 4, 0, 9, 9);
        z.keep();
        Due.due("the fifth", z.voice(0, 9, 9), 4);
        Due.due("full", z.voice(0, 9, 9), FULL);
        z.back();
        Due.due("the fifth again", z.voice(1, 9, 9), 4);
    }

    /** Promise 3: "Of a VOICE: what 0 KIND .. 10 WORTH. BAD." */
    private static void told() {
        Due.due("no VOICES", new DeadAir().told(0, 0), BAD);
        Bounds.range("told, voice", Bounds.ROOM, (x, v) -> x.told(v, 3), 0, 2, 5, 7);
        Bounds.range("told, voice of five", Bounds.CROWD, (x, v) -> x.told(v, 3), 0, 4, 5, 9);
        Bounds.range("told, what", Bounds.CROWD, (x, v) -> x.told(4, v), 0, 10, 4, 32);
        Bounds.unchanged("told changes nothing", Bounds.CROWD, x -> x.told(3, 10), 58);
    }

    /** Promise 4: "BAD: voice, kind". */
    private static void asBad() {
        Due.due("no VOICES", new DeadAir().as(0, 0), BAD);
        Bounds.range("as, voice", Bounds.CROWD, (x, v) -> x.as(v, 0), 0, 4, 9, 7);
        Bounds.range("as, voice of three", Bounds.ROOM, (x, v) -> x.as(v, 0), 0, 2, 9, 14);
        Bounds.range("as, kind", Bounds.CROWD, (x, v) -> x.as(0, v), 0, 5, 9, KIND);
    }

    /** Promise 4: "KIND: she is not of that KIND, nor of one under it." */
    private static void asKind() {
        int[][] of = {{1, 0, 0, 0, 0, 0}, {1, 1, 0, 0, 0, 0}, {1, 0, 1, 0, 0, 0},
            {1, 1, 0, 1, 0, 0}, {1, 0, 1, 0, 1, 0}, {1, 0, 0, 0, 0, 1}};
        for (int kind = 0; kind < 6; kind++) {
            for (int wanted = 0; wanted < 6; wanted++) {
                DeadAir x = new DeadAir();
                x.voice(kind, 60, 1);
                int due = of[kind][wanted] == 1 ? 60 : KIND;
                Due.due("kind " + kind + " as " + wanted, x.as(0, wanted), due);
            }
        }
        Bounds.unchanged("KIND", Bounds.CROWD, x -> x.as(2, 3), KIND);
    }

    /** Promise 5: "A VOICE is of another KIND from now on: what she was. BAD." */
    private static void turns() {
        Due.due("no VOICES", new DeadAir().turns(0, 0), BAD);
        Bounds.range("turns, voice", Bounds.CROWD, (x, v) -> x.turns(v, 0), 0, 4, 0, 4);
        Bounds.range("turns, voice of three", Bounds.ROOM, (x, v) -> x.turns(v, 0), 0, 2, 0, 1);
        Bounds.range("turns, kind", Bounds.CROWD, (x, v) -> x.turns(3, v), 0, 5, 3);
        DeadAir x = new DeadAir();
        x.voice(5, 7, 8);
        Due.due("to the least", x.turns(0, 0), 5);
        Due.due("to the highest", x.turns(0, 5), 0);
        Due.due("to what she is", x.turns(0, 5), 5);
        Due.due("WAIT stays", x.told(0, 1), 7);
        Due.due("TALK stays", x.told(0, 2), 8);
    }

    /** Promise 6: "WAIT, TALK, PAUSE (what 1 .. 3) of a VOICE becomes v: what it was. BAD." */
    private static void setBounds() {
        Due.due("no VOICES", new DeadAir().set(0, 1, 1), BAD);
        Bounds.range("set, voice", Bounds.CROWD, (x, v) -> x.set(v, 1, 5), 0, 4, 9, 7);
        Bounds.range("set, voice of three", Bounds.ROOM, (x, v) -> x.set(v, 1, 5), 0, 2, 9, 14);
        Bounds.range("set, what 1 .. 3", Bounds.CROWD, (x, v) -> x.set(2, v, 5), 1, 3, 14, 7);
        Bounds.range("set, WAIT 1 .. 60", Bounds.CROWD, (x, v) -> x.set(2, 1, v), 1, 60, 14);
        Bounds.range("set, TALK 1 .. 60", Bounds.CROWD, (x, v) -> x.set(2, 2, v), 1, 60, 50);
        Bounds.range("set, PAUSE 0 .. 40", Bounds.CROWD, (x, v) -> x.set(2, 3, v), 0, 40, 7);
    }

    private static void setWas() {
        int[][] ends = {{1, 60}, {1, 60}, {0, 40}};
        for (int what = 1; what <= 3; what++) {
            DeadAir x = new DeadAir();
            x.voice(0, 30, 30);
            x.set(0, what, ends[what - 1][0]);
            Due.due("the least was taken", x.set(0, what, ends[what - 1][1]), ends[what - 1][0]);
            Due.due("the most was taken", x.told(0, what), ends[what - 1][1]);
            Due.due("the other one stays", x.told(0, what == 1 ? 2 : 1), 30);
        }
    }

    /** Promise 7: "for n (1 .. 60) TENTHS .. BAD." */
    private static void speakBounds() {
        Due.due("no VOICES", new DeadAir().speak(0, 1), BAD);
        Bounds.range("speak, n 1 .. 60", Bounds.ROOM, (x, v) -> x.speak(2, v), 1, 60, 9);
        Bounds.range("speak, voice", Bounds.ROOM, (x, v) -> x.speak(v, 5), 0, 2, 0, 9);
        Bounds.range("speak, voice of five", Bounds.CROWD, (x, v) -> x.speak(v, 5), 0, 4,
            Bounds.made(Bounds.CROWD).told(0, 4), Bounds.made(Bounds.CROWD).told(4, 4));
        DeadAir x = new DeadAir();
        x.voice(5, 60, 1);
        x.speak(0, 60);
        Due.due("60 are taken", x.told(0, 4), 60);
        Due.due("59 of them, none SILENT", x.tenths(59), 0);
        Due.due("with the sixtieth she ends", x.tenths(1), 1);
        x.speak(0, 1);
        Due.due("1 is taken", x.told(0, 4), 1);
        Due.due("with it she ends", x.tenths(1), 1);
    }

    /** Promise 7: "whatever she did (LEFT is n): what LEFT was (SAID 1 more)." */
    private static void speakWhateverSheDid() {
        DeadAir x = new DeadAir();
        x.voice(5, 60, 1);
        Due.due("she did not speak", x.speak(0, 60), 0);
        Due.due("she speaks longer", x.speak(0, 1), 60);
        Due.due("n, not the more", x.told(0, 4), 1);
        Due.due("she speaks as long", x.speak(0, 1), 1);
        Due.due("SAID 1 more each time", x.told(0, 6), 3);
        Due.due("she did not stop", x.studio(9), -1);
    }

    /** Promise 8: "BAD". */
    private static void hushBounds() {
        Due.due("no VOICES", new DeadAir().hush(0), BAD);
        Bounds.range("hush, voice", Bounds.ROOM, (x, v) -> x.hush(v), 0, 2, 0, 9);
        Bounds.range("hush, voice of five", Bounds.CROWD, (x, v) -> x.hush(v), 0, 4,
            Bounds.made(Bounds.CROWD).told(0, 4), Bounds.made(Bounds.CROWD).told(4, 4));
    }

    /** Promise 8: "what LEFT was (if it was not 0, she is LAST)." */
    private static void hushIfNotZero() {
        DeadAir x = new DeadAir();
        Bounds.voices(x, 5, 5, 1, 1);
        Due.due("LEFT was 0", x.hush(4), 0);
        Due.due("none is LAST by that", x.studio(9), -1);
        x.speak(4, 1);
        Due.due("LEFT was 1", x.hush(4), 1);
        Due.due("she is LAST", x.studio(9), 4);
        x.speak(0, 60);
        Due.due("LEFT was 60", x.hush(0), 60);
        Due.due("then the other one is", x.studio(9), 0);
        Due.due("LEFT was 0", x.hush(4), 0);
        Due.due("she is not LAST again by that", x.studio(9), 0);
        Due.due("nobody speaks", x.studio(10), 0);
        Bounds.unchanged("hushed who does not speak", Bounds.ROOM, y -> y.hush(0), 0);
    }

    /** "LISTENERS 0 .. 9999", "CUT 0 .. 200", "FILL 0 .. 200"; promise 9: "(what 0 .. 2) .. BAD." */
    private static void airBounds() {
        Bounds.range("air, what 0 .. 2", Bounds.CROWD, (x, v) -> x.air(v, 7), 0, 2, 777, 33);
        Bounds.range("air, LISTENERS", Bounds.CROWD, (x, v) -> x.air(0, v), 0, 9999, 777);
        Bounds.range("air, CUT", Bounds.CROWD, (x, v) -> x.air(1, v), 0, 200, 90);
        Bounds.range("air, FILL", Bounds.CROWD, (x, v) -> x.air(2, v), 0, 200, 33);
        Bounds.range("air, new object", Bounds.BARE, (x, v) -> x.air(v, 0), 0, 2, 1000, 0);
    }

    /** Promise 9: "becomes v: what it was." */
    private static void airWas() {
        int[] most = {9999, 200, 200};
        for (int what = 0; what < 3; what++) {
            DeadAir x = new DeadAir();
            x.air(what, most[what]);
            Due.due("the most was taken", x.air(what, 0), most[what]);
            Due.due("the least was taken", x.air(what, 1), 0);
        }
    }

    /** Promise 10: "n (1 .. 5) of them .. BAD." */
    private static void dealBounds() {
        Bounds.range("deal, n 1 .. 5", Bounds.BARE, (x, v) -> x.deal(v), 1, 5, 1, 5);
        Bounds.range("deal, n 1 .. 5, room for two", Bounds.ROOM, (x, v) -> x.deal(v), 1, 5, 1, 2);
        Bounds.range("deal, n 1 .. 5, no room", Bounds.CROWD, (x, v) -> x.deal(v), 1, 5, 0, 0);
    }

    /** Promise 10: "as many as there is room for". */
    private static void dealAsManyAsThereIsRoom() {
        for (int before = 0; before <= 5; before++) {
            for (int n = 1; n <= 5; n++) {
                DeadAir x = new DeadAir();
                Bounds.voices(x, before, 0, 9, 9);
                int due = Math.min(n, 5 - before);
                Due.due("deal(" + n + ") behind " + before, x.deal(n), due);
                Due.due("so many are there", x.count(0), before + due);
                Due.due("three draws for each", x.count(6), Bounds.drawn(1, 3 * due));
            }
        }
    }

    /** Promise 10: "(no draws for others)". */
    private static void dealNoDrawsForOthers() {
        Bounds.unchanged("no room, no draws", Bounds.CROWD, x -> x.deal(5), 0);
        DeadAir x = new DeadAir();
        x.deal(5);
        DeadAir y = new DeadAir();
        Bounds.voices(y, 1, 0, 9, 9);
        y.deal(5);
        Due.due("fifteen", x.count(6), Bounds.drawn(1, 15));
        Due.due("twelve", y.count(6), Bounds.drawn(1, 12));
    }

    /** "KIND the rest of a draw by 6, WAIT 1 and that of one more by 20, TALK 1 and .. by 40". */
    private static void drawnVoicesAtTheirEnds() {
        int[] by = {6, 20, 40};
        int[] least = {0, 1, 1};
        for (int what = 0; what < 3; what++) {
            for (int rest : new int[] {0, by[what] - 1}) {
                DeadAir x = new DeadAir();
                int z = Bounds.seedFor(what + 1, by[what], rest);
                x.seed(z);
                x.deal(1);
                Due.due("drawn: what " + what + " rest " + rest, x.told(0, what), least[what] + rest);
                Due.due("z wraps as an int", x.count(6), Bounds.drawn(z, 3));
            }
        }
    }

    /** Promise 11: "z becomes v: what it was." Any int will do; draws wrap, and are never below 0. */
    private static void seed() {
        int[] all = {0, -1, MIN, MAX, 1, DeadAir.BAD};
        DeadAir x = new DeadAir();
        int was = 1;
        for (int z : all) {
            Due.due("what it was", x.seed(z), was);
            Due.due("z is told", x.count(6), z);
            was = z;
        }
        for (int z : all) {
            DeadAir y = new DeadAir();
            y.seed(z);
            y.deal(5);
            for (int voice = 0; voice < 5; voice++) {
                Due.due("KIND", y.told(voice, 0), Bounds.draw(z, 3 * voice + 1, 6));
                Due.due("WAIT", y.told(voice, 1), 1 + Bounds.draw(z, 3 * voice + 2, 20));
                Due.due("TALK", y.told(voice, 2), 1 + Bounds.draw(z, 3 * voice + 3, 40));
            }
        }
    }
}
