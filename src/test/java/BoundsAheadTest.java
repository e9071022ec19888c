/** "3 (All this is only thought ..)" and promises 14 to 24 at their bounds. */
public final class BoundsAheadTest {
    private static final int BAD = DeadAir.BAD, NONE = DeadAir.NONE, NOTHING = DeadAir.NOTHING;

    private BoundsAheadTest() {
    }

    public static void main(String[] args) {
        onlyThought();
        zAsItIs();
        withoutTheBoundOfTheTenth();
        behindBounds();
        behindNoTenths();
        behindAHundred();
        nextBounds();
        nextBehindOneToTwoHundred();
        nextSaidIsMoreThanNow();
        nextOfSeveralTheLeast();
        nextNone();
        holeBounds();
        holeBehindOneToTwoHundred();
        holeOrMore();
        holeWhateverComesOfIt();
        holeNone();
        patienceBounds();
        patienceByTrying();
        patienceFromOneToSixty();
        deviceBounds();
        deviceByTrying();
        deviceByFives();
        deviceFromFiveToTwoHundred();
        fillerBounds();
        fillerByTrying();
        fillerFromNoneToSixty();
        becomesBounds();
        becomesEachKind();
        ofSeveralTheLeast();
        eachByItself();
        apartBounds();
        apartOneAndTheSame();
        apartFromNoneToTwenty();
        apartAsItIsNow();
        whoseBounds();
        whoseNothing();
        whoseNone();
        whosePlacesThatAreNumbers();
        whoseSignsLeftOut();
        whoseOfSeveralTheLeast();
        whoseFullSheet();
        feeWithoutAText();
        fineWithoutAText();
        fineBounds();
        Due.end();
    }

    /** "(All this is only thought ..: nothing changes.)" */
    private static void onlyThought() {
        DeadAir y = Bounds.made(Bounds.CROWD);
        Bounds.unchanged("behind", Bounds.CROWD, x -> x.behind(100, 0), y.behind(100, 0));
        Bounds.unchanged("next", Bounds.CROWD, x -> x.next(1), y.next(1));
        Bounds.unchanged("hole", Bounds.CROWD, x -> x.hole(200), y.hole(200));
        Bounds.unchanged("patience", Bounds.CROWD, x -> x.patience(4, 60, 0), y.patience(4, 60, 0));
        Bounds.unchanged("device", Bounds.CROWD, x -> x.device(60, 0), y.device(60, 0));
        Bounds.unchanged("filler", Bounds.CROWD, x -> x.filler(60, 0), y.filler(60, 0));
        Bounds.unchanged("becomes", Bounds.CROWD, x -> x.becomes(4, 60, 0), y.becomes(4, 60, 0));
        Bounds.unchanged("apart", Bounds.CROWD, x -> x.apart(0, 4, 60), y.apart(0, 4, 60));
        Bounds.unchanged("whose", Bounds.CROWD, x -> x.whose(0, 0), y.whose(0, 0));
        Bounds.unchanged("fee", Bounds.CROWD, x -> x.fee(), y.fee());
        Bounds.unchanged("fine", Bounds.CROWD, x -> x.fine(4), y.fine(4));
    }

    /** "z as it is": a thought draws what would be drawn, each time anew. */
    private static void zAsItIs() {
        for (int z : new int[] {1, -9, Integer.MIN_VALUE, Integer.MAX_VALUE}) {
            DeadAir x = new DeadAir();
            x.seed(z);
            Bounds.voices(x, 2, 0, 3, 60);
            int due = x.behind(100, 3);
            Due.due("the same again", x.behind(100, 3), due);
            x.tenths(100);
            Due.due("as it comes", x.told(0, 6), due);
        }
    }

    private static DeadAir atTheLastTenth(int kind, int wait) {
        DeadAir x = new DeadAir();
        x.air(1, 0);
        Due.text(x, "off 1");
        Bounds.voices(x, 2, kind, wait, 60);
        Bounds.tenths(x, 9999);
        x.air(0, 1000);
        return x;
    }

    /** "without the bound of THE TENTH". */
    private static void withoutTheBoundOfTheTenth() {
        DeadAir x = atTheLastTenth(5, 60);
        Due.due("9999", x.count(1), 9999);
        Due.due("behind: SILENT", x.behind(100, 1), 9999 + 100);
        Due.due("behind: LISTENERS", x.behind(100, 0), 900);
        x.speak(0, 4);
        x.turns(1, 0);
        x.set(1, 3, 0);
        Due.due("next", x.next(1), 4 + 59);
        Due.due("hole", x.hole(50), 53);
        Due.due("patience", x.patience(1, 4, 1), 1000);
        Due.due("device: 3 of talk, 7 turn off", x.device(10, 1), 993);
        Due.due("device", x.device(10, 0), 10);
        Due.due("filler: jingles for 0 and 1", x.filler(7, 1), 997);
        Due.due("filler: one jingle for nothing", x.filler(4, 1), 1000);
        Due.due("becomes", x.becomes(1, 3, 1), 1000);
        x.turns(0, 0);
        x.hush(0);
        Due.due("apart", x.apart(0, 1, 1), NONE);
        x.speak(0, 9);
        x.sheet(0, 0, 3);
        Bounds.marks(x, 0, 9, 8, 7);
        Due.due("whose", x.whose(0, 0), 0);
        Due.due("whose, to the tenth", x.whose(0, 1), 0);
        Due.due("9999 still", x.count(1), 9999);
    }

    /** Promise 14: "n (0 .. 100) .. what 0 .. 2; 3 and k .. BAD." */
    private static void behindBounds() {
        DeadAir y = Bounds.made(Bounds.CROWD);
        Bounds.range("behind, n 0 .. 100", Bounds.CROWD, (x, v) -> x.behind(v, 0), 0, 100,
            777, y.behind(100, 0));
        Bounds.range("behind, what of none", Bounds.BARE, (x, v) -> x.behind(0, v), 0, 2, 1000, 0);
        Bounds.range("behind, what of three", Bounds.ROOM, (x, v) -> x.behind(0, v), 0, 5, 777, 2);
        Bounds.range("behind, what of five", Bounds.CROWD, (x, v) -> x.behind(0, v), 0, 7,
            777, y.told(4, 6));
        for (int many = 0; many < 5; many++) {
            DeadAir x = new DeadAir();
            Bounds.voices(x, many, 0, 9, 9);
            Due.due("no VOICE " + many, x.behind(100, 3 + many), BAD);
            x.voice(5, 9, 9);
            Due.due("VOICE " + many, x.behind(100, 3 + many), 0);
        }
    }

    private static void behindNoTenths() {
        DeadAir x = Bounds.made(Bounds.CROWD);
        Due.due("LISTENERS now", x.behind(0, 0), x.studio(0));
        Due.due("SILENT now", x.behind(0, 1), x.studio(2));
        Due.due("CROSSED now", x.behind(0, 2), x.studio(6));
        for (int voice = 0; voice < 5; voice++) {
            Due.due("SAID now", x.behind(0, 3 + voice), x.told(voice, 6));
        }
    }

    private static void behindAHundred() {
        for (int n : new int[] {1, 100}) {
            DeadAir x = Bounds.made(Bounds.CROWD);
            int[] due = new int[8];
            for (int what = 0; what < 8; what++) {
                due[what] = x.behind(n, what);
            }
            x.tenths(n);
            Due.due("LISTENERS then", x.studio(0), due[0]);
            Due.due("SILENT then", x.studio(2), due[1]);
            Due.due("CROSSED then", x.studio(6), due[2]);
            for (int voice = 0; voice < 5; voice++) {
                Due.due("SAID then", x.told(voice, 6), due[3 + voice]);
            }
        }
    }

    /** Promise 15: "what 0 the VOICE, 1 behind how many TENTHS. BAD". */
    private static void nextBounds() {
        Bounds.range("next, what", Bounds.BARE, (x, v) -> x.next(v), 0, 1, NONE);
        DeadAir y = Bounds.made(Bounds.CROWD);
        Bounds.range("next, what", Bounds.CROWD, (x, v) -> x.next(v), 0, 1, y.next(0), y.next(1));
    }

    /** A SHY one who WAITS for so many TENTHS. */
    private static DeadAir shy(int waits) {
        DeadAir x = new DeadAir();
        x.air(1, 0);
        x.voice(4, 60, 5);
        x.speak(0, 1);
        x.hush(0);
        x.set(0, 3, waits / 2 - 63);
        Due.due("she WAITS", x.told(0, 7), waits);
        return x;
    }

    /** "behind how many TENTHS (1 .. 200)". */
    private static void nextBehindOneToTwoHundred() {
        Due.due("behind 200", shy(200).next(1), 200);
        Due.due("she", shy(200).next(0), 0);
        DeadAir x = shy(202);
        Due.due("behind 202", x.next(1), NONE);
        x.tenths(1);
        Due.due("behind 201", x.next(1), NONE);
        Due.due("behind 201", x.next(0), NONE);
        x.tenths(1);
        Due.due("behind 200 again", x.next(1), 200);
        Bounds.tenths(x, 199);
        Due.due("behind 1", x.next(1), 1);
    }

    /** "the VOICE whose SAID is more than now first". */
    private static void nextSaidIsMoreThanNow() {
        DeadAir x = new DeadAir();
        x.voice(0, 5, 60);
        x.voice(5, 1, 1);
        x.speak(1, 7);
        Due.due("not she who speaks now", x.next(0), 0);
        Due.due("behind her talk", x.next(1), 7 + 4);
        x.hush(1);
        x.speak(0, 7);
        Due.due("she again, by a breath", x.next(0), 0);
        Due.due("behind her own talk", x.next(1), 7 + 4);
        // who crosses and yields has not begun
        DeadAir y = new DeadAir();
        Bounds.voices(y, 2, 0, 5, 60);
        y.seed(twoStepsApart());
        Due.due("crossed behind 5", y.behind(5, 2), 1);
        Due.due("the one who stepped back less", y.next(0), 1);
        Due.due("behind both", y.next(1), 5 + 5);
    }

    /** A z by which the first draw by 6 leaves 1 or more and the second one 0. */
    private static int twoStepsApart() {
        int z = 1;
        while (Bounds.draw(z, 1, 6) == 0 || Bounds.draw(z, 2, 6) != 0) {
            z++;
        }
        return z;
    }

    /** "(of several in one TENTH the least)". */
    private static void nextOfSeveralTheLeast() {
        DeadAir x = new DeadAir();
        x.voice(0, 9, 60);
        x.voice(5, 1, 1);
        for (int i = 2; i < 5; i++) {
            x.voice(1, 11, 60);
        }
        Due.due("of 2, 3, 4", x.next(0), 2);
        Due.due("all at once", x.next(1), 9);
        x.turns(2, 5);
        Due.due("of 3, 4", x.next(0), 3);
        x.turns(3, 5);
        Due.due("4", x.next(0), 4);
    }

    /** Promise 15: "NONE: none by then." */
    private static void nextNone() {
        for (int what = 0; what < 2; what++) {
            int asked = what;
            Bounds.unchanged("no VOICES", Bounds.BARE, x -> x.next(asked), NONE);
            Bounds.unchanged("all QUIET", x -> Bounds.voices(x, 5, 5, 1, 1), x -> x.next(asked), NONE);
        }
        DeadAir x = new DeadAir();
        x.air(1, 4);
        x.voice(0, 5, 9);
        Due.due("the device is always sooner", x.next(0), NONE);
        x.air(1, 5);
        Due.due("she is", x.next(1), 5);
    }

    /** Promise 16: "HOLE of s (1 .. 200). BAD". */
    private static void holeBounds() {
        Bounds.range("hole, s 1 .. 200", x -> x.air(1, 0), (x, v) -> x.hole(v), 1, 200, 1, 200);
        Bounds.range("hole, s 1 .. 200", Bounds.CROWD, (x, v) -> x.hole(v), 1, 200,
            Bounds.made(Bounds.CROWD).hole(1), NONE);
    }

    /** "behind how many TENTHS (1 .. 200)". */
    private static void holeBehindOneToTwoHundred() {
        DeadAir x = new DeadAir();
        x.air(1, 0);
        x.voice(5, 1, 1);
        x.speak(0, 2);
        Due.due("199 behind 200", x.hole(199), 200);
        Due.due("200 behind 201", x.hole(200), NONE);
        x.speak(0, 1);
        Due.due("200 behind 200", x.hole(200), 200);
        x.speak(0, 60);
        Due.due("141 behind 200", x.hole(141), 200);
        Due.due("142 behind 201", x.hole(142), NONE);
        Due.due("1 behind 60", x.hole(1), 60);
    }

    /** "SILENCE is s or more first". */
    private static void holeOrMore() {
        DeadAir x = new DeadAir();
        x.air(1, 0);
        x.tenths(50);
        Due.due("it is 50 now, 51 then", x.hole(1), 1);
        Due.due("as much", x.hole(51), 1);
        Due.due("one more", x.hole(52), 2);
        Due.due("200", x.hole(200), 150);
        Bounds.tenths(x, 200);
        Due.due("far more", x.hole(200), 1);
    }

    /** "(by (2), whatever comes of it then)". */
    private static void holeWhateverComesOfIt() {
        DeadAir jingle = new DeadAir();
        jingle.air(2, 7);
        Due.due("a jingle", jingle.hole(7), 7);
        Due.due("no longer hole", jingle.hole(8), NONE);
        DeadAir device = new DeadAir();
        device.air(1, 7);
        Due.due("the device", device.hole(7), 7);
        Due.due("no longer hole", device.hole(8), NONE);
        DeadAir crossing = new DeadAir();
        Bounds.voices(crossing, 2, 0, 7, 60);
        Due.due("all yield", crossing.hole(7), 7);
        DeadAir talk = new DeadAir();
        talk.voice(1, 9, 60);
        talk.seed(Bounds.seedFor(1, 60, 59));
        Due.due("she begins", talk.hole(7), 7);
        Due.due("by and by she is LAST", talk.hole(8), NONE);
    }

    /** Promise 16: "NONE: not by then." */
    private static void holeNone() {
        Bounds.unchanged("the device", Bounds.BARE, x -> x.hole(111), NONE);
        Bounds.unchanged("just so", Bounds.BARE, x -> x.hole(110), 110);
    }

    /** Promise 17: "of a VOICE, for n (1 .. 60): what 0 WAIT, 1 LISTENERS. BAD." */
    private static void patienceBounds() {
        DeadAir y = Bounds.made(Bounds.CROWD);
        Due.due("no VOICES", new DeadAir().patience(0, 1, 0), BAD);
        Bounds.range("patience, voice", Bounds.CROWD, (x, v) -> x.patience(v, 9, 1), 0, 4,
            y.patience(0, 9, 1), y.patience(4, 9, 1));
        Bounds.range("patience, voice of one", BoundsAheadTest::oneQuiet,
            (x, v) -> x.patience(v, 9, 1), 0, 0, 991);
        Bounds.range("patience, n 1 .. 60", BoundsAheadTest::oneQuiet,
            (x, v) -> x.patience(0, v, 1), 1, 60, 999, 940);
        Bounds.range("patience, what", BoundsAheadTest::oneQuiet,
            (x, v) -> x.patience(0, 60, v), 0, 1, 1, 940);
    }

    private static void oneQuiet(DeadAir x) {
        x.voice(5, 9, 9);
        Due.text(x, "off 1");
    }

    /** The best of values when each is tried in turn, as {value, LISTENERS}; of several the least. */
    private static int[] byTrying(DeadAir x, int least, int most, int step, int n, Bounds.CallWith put) {
        int[] best = {-1, -1};
        x.keep();
        for (int v = least; v <= most; v += step) {
            put.on(x, v);
            x.tenths(n);
            int listeners = x.studio(0);
            if (listeners > best[1]) {
                best[0] = v;
                best[1] = listeners;
            }
            x.back();
        }
        return best;
    }

    private static DeadAir lot(int z, int many, String off) {
        DeadAir x = new DeadAir();
        x.seed(z);
        x.deal(many);
        x.tenths(25);
        Due.text(x, off);
        return x;
    }

    /** "the WAIT 1 .. 60 with which LISTENERS are most behind n TENTHS; of several the least". */
    private static void patienceByTrying() {
        for (int z = 1; z <= 30; z++) {
            DeadAir x = lot(z * 7919, 3, "off s*s");
            int[] due = byTrying(x, 1, 60, 1, 60, (y, v) -> y.set(1, 1, v));
            Due.due("WAIT, z " + z, x.patience(1, 60, 0), due[0]);
            Due.due("LISTENERS, z " + z, x.patience(1, 60, 1), due[1]);
        }
    }

    /** Two who would cross at once, but for a WAIT of the second one of more than n and one. */
    private static DeadAir bothReadyBehind(int n) {
        DeadAir x = new DeadAir();
        x.air(1, 0);
        Bounds.voices(x, 2, 5, 1, 60);
        Bounds.tenths(x, n);
        x.seed(longTalkOrBothBack());
        x.turns(0, 0);
        x.turns(1, 0);
        x.air(0, 1000);
        Due.text(x, "off 1");
        return x;
    }

    /** A z by which one alone talks for 60, and two who cross do not begin in the next TENTH. */
    private static int longTalkOrBothBack() {
        int z = 1;
        while (Bounds.draw(z, 1, 60) != 59 || Bounds.draw(z, 2, 6) == 0) {
            z++;
        }
        return z;
    }

    private static void patienceFromOneToSixty() {
        Due.due("59: she must WAIT 60", bothReadyBehind(58).patience(1, 2, 0), 60);
        Due.due("nobody turns off", bothReadyBehind(58).patience(1, 2, 1), 1000);
        Due.due("60: 61 is not tried", bothReadyBehind(59).patience(1, 2, 0), 1);
        Due.due("one turns off", bothReadyBehind(59).patience(1, 2, 1), 999);
        DeadAir x = new DeadAir();
        x.voice(0, 60, 60);
        x.seed(Bounds.seedFor(1, 60, 59));
        Due.text(x, "off 1");
        Due.due("1", x.patience(0, 1, 0), 1);
        Due.due("at once, so nobody turns off", x.patience(0, 1, 1), 1000);
    }

    /** Promise 18: "for n (1 .. 60): what 0 CUT, 1 LISTENERS. BAD." */
    private static void deviceBounds() {
        Bounds.range("device, n 1 .. 60", BoundsAheadTest::oneQuiet,
            (x, v) -> x.device(v, 1), 1, 60, 999, 940);
        Bounds.range("device, what", BoundsAheadTest::oneQuiet,
            (x, v) -> x.device(60, v), 0, 1, 65, 940);
        Bounds.range("device, new object", Bounds.BARE, (x, v) -> x.device(v, 1), 1, 60, 1000, 937);
    }

    private static void deviceByTrying() {
        for (int z = 1; z <= 30; z++) {
            DeadAir x = lot(z * 104729, 2, "off s*3");
            int[] due = byTrying(x, 5, 200, 5, 60, (y, v) -> y.air(1, v));
            Due.due("CUT, z " + z, x.device(60, 0), due[0]);
            Due.due("LISTENERS, z " + z, x.device(60, 1), due[1]);
        }
    }

    /** "the CUT (5, 10, .., 200)". */
    private static void deviceByFives() {
        DeadAir x = new DeadAir();
        Due.text(x, "off 9999*(s=7)");
        Due.due("6 would halve once, 5 does twice", x.device(10, 1), 250);
        Due.due("5", x.device(10, 0), 5);
    }

    private static void deviceFromFiveToTwoHundred() {
        DeadAir x = new DeadAir();
        x.air(1, 0);
        Bounds.tenths(x, 198);
        x.air(0, 1000);
        Due.text(x, "off 0");
        Due.due("only 200 is not there yet", x.device(1, 0), 200);
        Due.due("nobody turns off", x.device(1, 1), 1000);
        Due.due("205 is not tried, nor 0", x.device(2, 1), 500);
        Due.due("so all are alike: the least", x.device(2, 0), 5);
        DeadAir y = new DeadAir();
        Due.text(y, "off 9999*(s>4)");
        Due.due("5", y.device(5, 0), 5);
        Due.due("half", y.device(5, 1), 500);
        DeadAir z = new DeadAir();
        Due.text(z, "off 9999*(s>3)");
        Due.due("4 is not tried", z.device(5, 1), 0);
    }

    /** Promise 19: "for n (1 .. 60): what 0 FILL, 1 LISTENERS. BAD." */
    private static void fillerBounds() {
        Bounds.range("filler, n 1 .. 60", x -> Due.text(x, "off 20"),
            (x, v) -> x.filler(v, 1), 1, 60, 1000, 10);
        Bounds.range("filler, what", x -> Due.text(x, "off 20"),
            (x, v) -> x.filler(60, v), 0, 1, 3, 10);
    }

    private static void fillerByTrying() {
        for (int z = 1; z <= 30; z++) {
            DeadAir x = lot(z * 15485863, 2, "off s*2");
            int[] due = byTrying(x, 0, 60, 1, 60, (y, v) -> y.air(2, v));
            Due.due("FILL, z " + z, x.filler(60, 0), due[0]);
            Due.due("LISTENERS, z " + z, x.filler(60, 1), due[1]);
        }
    }

    private static DeadAir silent(int n, String off) {
        DeadAir x = new DeadAir();
        x.air(1, 0);
        Bounds.tenths(x, n);
        x.air(0, 1000);
        Due.text(x, off);
        return x;
    }

    /** "the FILL 0 .. 60". */
    private static void fillerFromNoneToSixty() {
        Due.due("60", silent(59, "off 9").filler(1, 0), 60);
        Due.due("a jingle for nothing", silent(59, "off 9").filler(1, 1), 1000);
        Due.due("61 is not tried", silent(60, "off 9").filler(1, 0), 0);
        Due.due("nine turn off", silent(60, "off 9").filler(1, 1), 991);
        Due.due("0, no jingle", silent(5, "off 0").filler(60, 0), 0);
        DeadAir x = silent(0, "off 0");
        x.air(2, 1);
        x.tenths(3);
        x.air(0, 1000);
        Due.text(x, "off s");
        Due.due("0 by itself is best", x.filler(1, 0), 0);
        Due.due("3 JINGLES would cost more", x.filler(1, 1), 999);
    }

    /** Promise 20: "of a VOICE, for n (1 .. 60): what 0 the KIND, 1 LISTENERS. BAD." */
    private static void becomesBounds() {
        DeadAir y = Bounds.made(Bounds.CROWD);
        Due.due("no VOICES", new DeadAir().becomes(0, 1, 0), BAD);
        Bounds.range("becomes, voice", Bounds.CROWD, (x, v) -> x.becomes(v, 9, 1), 0, 4,
            y.becomes(0, 9, 1), y.becomes(4, 9, 1));
        Bounds.range("becomes, voice of one", BoundsAheadTest::oneQuiet,
            (x, v) -> x.becomes(v, 1, 1), 0, 0, 999);
        Bounds.range("becomes, n 1 .. 60", BoundsAheadTest::oneQuiet, (x, v) -> x.becomes(0, v, 1),
            1, 60, 999, byTrying(Bounds.made(BoundsAheadTest::oneQuiet), 0, 5, 1, 60,
                (x, v) -> x.turns(0, v))[1]);
        Bounds.range("becomes, what", BoundsAheadTest::oneQuiet, (x, v) -> x.becomes(0, 1, v), 0, 1, 0, 999);
    }

    /** "the KIND as one of which LISTENERS are most": each KIND is best for some. */
    private static void becomesEachKind() {
        int[] seeds = {11, 3, 2541, 1, 150, 724};
        for (int kind = 0; kind < 6; kind++) {
            DeadAir x = new DeadAir();
            x.seed(seeds[kind]);
            x.deal(2);
            x.tenths(30);
            Due.text(x, "off s");
            int[] due = byTrying(x, 0, 5, 1, 20, (y, v) -> y.turns(0, v));
            Due.due("this one is best", due[0], kind);
            Due.due("becomes", x.becomes(0, 20, 0), kind);
            Due.due("LISTENERS", x.becomes(0, 20, 1), due[1]);
        }
    }

    /** "of several the least", where all are alike. */
    private static void ofSeveralTheLeast() {
        DeadAir x = new DeadAir();
        x.voice(0, 30, 30);
        x.air(0, 0);
        Due.due("WAIT", x.patience(0, 30, 0), 1);
        Due.due("none", x.patience(0, 30, 1), 0);
        Due.due("CUT", x.device(30, 0), 5);
        Due.due("none", x.device(30, 1), 0);
        Due.due("FILL", x.filler(30, 0), 0);
        Due.due("none", x.filler(30, 1), 0);
        Due.due("KIND", x.becomes(0, 30, 0), 0);
        Due.due("none", x.becomes(0, 30, 1), 0);
        x.air(0, 9999);
        Due.due("all", x.becomes(0, 1, 1), 9999);
    }

    /** What was best before counts no more, nor what was asked before. */
    private static void eachByItself() {
        for (int first = 0; first < 4; first++) {
            for (int then = 0; then < 4; then++) {
                DeadAir x = new DeadAir();
                x.voice(5, 9, 9);
                Due.text(x, "off 1");
                x.air(0, 9999);
                Due.due("before", best(x, first), 9998 + (first == 2 ? 1 : 0));
                x.air(0, 10);
                Due.due("then", best(x, then), 9 + (then == 2 ? 1 : 0));
            }
        }
    }

    private static int best(DeadAir x, int which) {
        switch (which) {
            case 0: return x.patience(0, 1, 1);
            case 1: return x.device(1, 1);
            case 2: return x.filler(1, 1);
            default: return x.becomes(0, 1, 1);
        }
    }

    /** Promise 21: "for n (1 .. 60). BAD". */
    private static void apartBounds() {
        Due.due("no VOICES", new DeadAir().apart(0, 1, 1), BAD);
        Bounds.Script two = x -> Bounds.voices(x, 2, 0, 60, 60);
        Bounds.range("apart, n 1 .. 60", two, (x, v) -> x.apart(0, 1, v), 1, 60, 0, 1);
        Bounds.range("apart, one", Bounds.ROOM, (x, v) -> x.apart(v, v == 0 ? 1 : 0, 1), 0, 2, 0);
        Bounds.range("apart, other", Bounds.ROOM, (x, v) -> x.apart(v == 0 ? 1 : 0, v, 1), 0, 2, 0);
        Bounds.range("apart, one of five", Bounds.CROWD, (x, v) -> x.apart(v, v == 0 ? 1 : 0, 1), 0, 4, 0);
    }

    /** Promise 21: "BAD: also one and the same". */
    private static void apartOneAndTheSame() {
        for (int voice = 0; voice < 5; voice++) {
            int one = voice;
            Bounds.unchanged("the same", Bounds.CROWD, x -> x.apart(one, one, 1), BAD);
        }
        Due.due("one alone has no other one", Bounds.made(BoundsAheadTest::oneQuiet).apart(0, 1, 1), BAD);
    }

    /** "the least number 0 .. 20", promise 21: "NONE: with none." */
    private static void apartFromNoneToTwenty() {
        Bounds.Script far = x -> {
            x.air(1, 0);
            Bounds.voices(x, 2, 5, 30, 60);
            x.tenths(48);
            x.turns(0, 0);
            x.turns(1, 0);
        };
        Bounds.unchanged("SILENCE is 49 then: 20", far, x -> x.apart(0, 1, 1), 20);
        Bounds.Script farther = x -> {
            x.air(1, 0);
            Bounds.voices(x, 2, 5, 30, 60);
            x.tenths(49);
            x.turns(0, 0);
            x.turns(1, 0);
        };
        Bounds.unchanged("SILENCE is 50 then: 21 is not tried", farther, x -> x.apart(0, 1, 1), NONE);
        DeadAir y = new DeadAir();
        Bounds.voices(y, 2, 0, 30, 60);
        y.seed(Bounds.seedFor(1, 60, 59));
        Due.due("0 by itself", y.apart(0, 1, 29), 0);
        Due.due("1", y.apart(0, 1, 30), 1);
        Due.due("it is the other one who WAITS more", y.apart(1, 0, 30), 1);
        // WAIT of the other one is more, that of the one is not
        y.set(0, 1, 33);
        Due.due("she is behind already", y.apart(1, 0, 33), 0);
        y.set(1, 1, 33);
        y.set(0, 1, 31);
        y.turns(0, 2);
        Due.due("GUEST WAITS 34, VOICE 33", y.apart(0, 1, 40), 0);
        y.set(1, 1, 34);
        Due.due("34, 34", y.apart(0, 1, 40), 1);
    }

    /** "so that CROSSED behind n TENTHS is as it is now". */
    private static void apartAsItIsNow() {
        DeadAir x = new DeadAir();
        x.seed(twoStepsApart());
        Bounds.voices(x, 2, 0, 5, 60);
        x.tenths(5);
        Due.due("CROSSED is 1 now", x.studio(6), 1);
        Due.due("it stays 1", x.apart(0, 1, 5), 0);
        // two others who cross whatever she does
        DeadAir y = new DeadAir();
        Bounds.voices(y, 2, 1, 6, 60);
        y.voice(0, 60, 60);
        Due.due("two others cross", y.apart(0, 2, 4), NONE);
        Due.due("not by then", y.apart(0, 2, 3), 0);
    }

    /** Promise 22: "what 0 the VOICE, 1 the differences, together. BAD". */
    private static void whoseBounds() {
        DeadAir y = Bounds.made(Bounds.CROWD);
        Bounds.range("whose, sheet 0 .. 3", Bounds.CROWD, (x, v) -> x.whose(v, 1), 0, 3, y.whose(0, 1), 0);
        Bounds.range("whose, what", Bounds.CROWD, (x, v) -> x.whose(0, v), 0, 1, y.whose(0, 0), y.whose(0, 1));
        Bounds.range("whose, what, SHEET MISSING", Bounds.CROWD, (x, v) -> x.whose(2, v), 0, 1, NOTHING);
        Bounds.range("whose, sheet, all MISSING", Bounds.BARE, (x, v) -> x.whose(v, 0), 0, 3, NOTHING);
    }

    private static void whoseNothing() {
        Bounds.unchanged("MISSING", Bounds.CROWD, x -> x.whose(2, 0), NOTHING);
        Bounds.unchanged("MISSING, and no VOICES", Bounds.BARE, x -> x.whose(0, 1), NOTHING);
    }

    /** Promise 22: "NONE: there are no VOICES." */
    private static void whoseNone() {
        for (int n : new int[] {0, 1, 24}) {
            Bounds.unchanged("no VOICES", x -> x.sheet(0, 0, n), x -> x.whose(0, 0), NONE);
            Bounds.unchanged("no VOICES", x -> x.sheet(0, 1, n), x -> x.whose(0, 1), NONE);
        }
        Bounds.unchanged("BAD stands first", x -> x.sheet(0, 0, 1), x -> x.whose(0, 2), BAD);
    }

    /** LEFT now 5, 3, 0. */
    private static DeadAir talk() {
        DeadAir x = new DeadAir();
        Bounds.voices(x, 3, 5, 9, 9);
        x.speak(0, 5);
        x.speak(1, 3);
        return x;
    }

    /** "places k that are numbers (k from 0 on)". */
    private static void whosePlacesThatAreNumbers() {
        DeadAir x = talk();
        x.sheet(0, 1, 6);
        Bounds.marks(x, 0, NONE, NONE, NONE, NONE, NONE, NONE);
        Due.due("no numbers: the least", x.whose(0, 0), 0);
        Due.due("no differences", x.whose(0, 1), 0);
        x.mark(0, 0, 3);
        Due.due("place 0: LEFT now", x.whose(0, 0), 1);
        x.mark(0, 0, NONE);
        x.mark(0, 4, 1);
        Due.due("place 4: LEFT behind 4", x.whose(0, 0), 0);
        Due.due("to the tenth", x.whose(0, 1), 0);
        x.mark(0, 4, 0);
        Due.due("then two are silent", x.whose(0, 0), 1);
        x.sheet(1, 0, 0);
        Due.due("no places", x.whose(1, 0), 0);
        Due.due("no differences", x.whose(1, 1), 0);
    }

    /** "differ least (signs left out), together". */
    private static void whoseSignsLeftOut() {
        DeadAir x = talk();
        x.sheet(0, 0, 2);
        Bounds.marks(x, 0, 9, 0);
        // 4 + 4, 6 + 2, 9 + 0
        Due.due("together", x.whose(0, 1), 8);
        Due.due("of two alike the least", x.whose(0, 0), 0);
        Bounds.marks(x, 0, -32768, -32768);
        Due.due("she who is silent", x.whose(0, 0), 2);
        Due.due("the lowest shorts", x.whose(0, 1), 65536);
        x.sheet(1, 1, 2);
        Bounds.marks(x, 1, -99999, 99999);
        // 100004 + 99995, 100002 + 99997, 99999 + 99999
        Due.due("the ends of floats", x.whose(1, 1), 199998);
        Due.due("hers", x.whose(1, 0), 2);
    }

    private static void whoseOfSeveralTheLeast() {
        DeadAir x = new DeadAir();
        Bounds.voices(x, 5, 5, 9, 9);
        x.sheet(0, 0, 1);
        x.mark(0, 0, 7);
        Due.due("all alike", x.whose(0, 0), 0);
        x.speak(3, 6);
        x.speak(4, 8);
        Due.due("3 and 4 alike", x.whose(0, 0), 3);
        Due.due("by 1", x.whose(0, 1), 1);
        x.speak(4, 7);
        Due.due("4 alone", x.whose(0, 0), 4);
        Due.due("by 0", x.whose(0, 1), 0);
    }

    /** A SHEET of 24 places: the last one is LEFT behind 23 TENTHS. */
    private static void whoseFullSheet() {
        DeadAir x = new DeadAir();
        Bounds.voices(x, 2, 5, 9, 9);
        x.speak(0, 60);
        x.speak(1, 40);
        x.sheet(0, 0, 24);
        for (int k = 0; k < 24; k++) {
            x.mark(0, k, 40 - k);
        }
        Due.due("hers", x.whose(0, 0), 1);
        Due.due("to the tenth", x.whose(0, 1), 0);
        x.mark(0, 23, 37);
        Due.due("20 by the last place", x.whose(0, 1), 20);
        for (int k = 0; k < 24; k++) {
            x.mark(0, k, -32768);
        }
        Due.due("24 times so far", x.whose(0, 1), 24 * (32768 + 40) - 23 * 24 / 2);
    }

    /** "without a TEXT: SILENT". */
    private static void feeWithoutAText() {
        DeadAir x = new DeadAir();
        Due.due("0 at first", x.fee(), 0);
        Due.text(x, "fine 3");
        Due.text(x, "off 4");
        Bounds.tenths(x, 9999);
        Due.due("no fee among TEXTS", x.fee(), 9999);
        Due.text(x, "fee c");
        Due.due("with one", x.fee(), 0);
    }

    /** "without a TEXT: SAID". */
    private static void fineWithoutAText() {
        DeadAir x = new DeadAir();
        Bounds.voices(x, 5, 5, 9, 9);
        Due.due("0 at first", x.fine(4), 0);
        x.speak(4, 60);
        Due.text(x, "fee 3");
        Due.text(x, "off 4");
        Due.due("no fine among TEXTS", x.fine(4), 1);
        Due.text(x, "fine l");
        Due.due("with one", x.fine(4), 60);
        Due.due("of another one", x.fine(0), 0);
    }

    /** Promise 24: "BAD". */
    private static void fineBounds() {
        DeadAir y = Bounds.made(Bounds.CROWD);
        Due.due("no VOICES", new DeadAir().fine(0), BAD);
        Bounds.range("fine, voice of five", Bounds.CROWD, (x, v) -> x.fine(v), 0, 4, y.fine(0), y.fine(4));
        Bounds.range("fine, voice of three", Bounds.ROOM, (x, v) -> x.fine(v), 0, 2, 300, 209);
        Bounds.range("fine, without a TEXT", x -> Bounds.voices(x, 2, 5, 1, 1), (x, v) -> x.fine(v), 0, 1, 0);
    }
}
