/** "2 A TENTH" and promises 12, 13 at their bounds: a test for each sentence that names one. */
public final class BoundsTenthsTest {
    private static final int BAD = DeadAir.BAD;
    private static final int LISTENERS = 0, SILENCE = 1, SILENT = 2, HOLE = 3, BREATHS = 4,
        TURNS = 5, CROSSED = 6, JINGLES = 7, CUTS = 8, LAST = 9, SPEAK = 10;

    private BoundsTenthsTest() {
    }

    public static void main(String[] args) {
        leftIsOneLess();
        isItZeroThenSheIsLast();
        byNumbersTheHighestIsLast();
        silenceElseZero();
        holeIfThatIsMore();
        readyIfNoLess();
        readyIfMore();
        quietNever();
        oneAloneBegins();
        oneAloneIfSheIsLast();
        twoOrMoreCross();
        crossedIsNoBreath();
        byNumbersEachDraws();
        whoIsNotReadyStaysOut();
        ifNobodySpeaksThenSilenceIsZero();
        ifOneSpeaksSilenceStays();
        leftIsOneAndTheRest();
        backIsTheRest();
        backIsZeroBehindBeginning();
        silenceIsFill();
        fillZeroIsNoJingle();
        fewerByJingles();
        silenceIsCutOrMore();
        cutZeroIsNoDevice();
        listenersAreHalf();
        fillElseCut();
        neitherWhenOneBegins();
        neitherWhenSilenceIsZero();
        withoutATextByTwenty();
        offHeldWithin();
        offSeesThisTenth();
        tenthsBounds();
        tenthsNoMoreThanUpTo();
        tenthsBackFromTheLast();
        studioBounds();
        studioSets();
        Due.end();
    }

    /** "LEFT of each who speaks is 1 less". */
    private static void leftIsOneLess() {
        DeadAir x = new DeadAir();
        Bounds.voices(x, 5, 5, 60, 60);
        int[] left = {0, 1, 2, 3, 60};
        for (int i = 1; i < 5; i++) {
            x.speak(i, left[i]);
        }
        x.tenths(1);
        int[] due = {0, 0, 1, 2, 59};
        for (int i = 0; i < 5; i++) {
            Due.due("LEFT of " + i, x.told(i, 4), due[i]);
        }
    }

    /** "is it 0 then, she is LAST". */
    private static void isItZeroThenSheIsLast() {
        DeadAir x = new DeadAir();
        Bounds.voices(x, 3, 5, 60, 60);
        x.speak(1, 2);
        x.speak(2, 5);
        x.tenths(1);
        Due.due("it is 1", x.studio(LAST), -1);
        x.tenths(1);
        Due.due("it is 0, though another one speaks", x.studio(LAST), 1);
        x.tenths(2);
        Due.due("it was 0 before", x.studio(LAST), 1);
        x.tenths(1);
        Due.due("then the other one's is", x.studio(LAST), 2);
    }

    /** "VOICES by numbers": of those who end in one TENTH the highest is LAST. */
    private static void byNumbersTheHighestIsLast() {
        DeadAir x = new DeadAir();
        Bounds.voices(x, 5, 5, 60, 60);
        for (int i = 4; i >= 0; i--) {
            x.speak(i, 1);
        }
        x.tenths(1);
        Due.due("of five", x.studio(LAST), 4);
        x.speak(0, 1);
        x.speak(3, 1);
        x.tenths(1);
        Due.due("of two", x.studio(LAST), 3);
    }

    /** "If nobody speaks, SILENCE and SILENT are 1 more .. else SILENCE is 0." */
    private static void silenceElseZero() {
        DeadAir x = new DeadAir();
        x.voice(5, 60, 60);
        x.tenths(5);
        x.speak(0, 2);
        Due.due("not by speaking", x.studio(SILENCE), 5);
        Due.due("one TENTH of talk", x.tenths(1), 0);
        Due.due("SILENCE is 0", x.studio(SILENCE), 0);
        Due.due("SILENT stays", x.studio(SILENT), 5);
        Due.due("she ends", x.tenths(1), 1);
        Due.due("SILENCE is 1", x.studio(SILENCE), 1);
        x.speak(0, 1);
        Due.due("who ends at once has not spoken in it", x.tenths(1), 1);
        Due.due("SILENCE goes on", x.studio(SILENCE), 2);
        Due.due("SILENT", x.studio(SILENT), 7);
    }

    /** "(HOLE is SILENCE, if that is more)". */
    private static void holeIfThatIsMore() {
        DeadAir x = new DeadAir();
        x.voice(5, 60, 60);
        int[] silences = {5, 4, 5, 6, 1};
        int[] due = {5, 5, 5, 6, 6};
        for (int i = 0; i < silences.length; i++) {
            x.tenths(silences[i]);
            Due.due("SILENCE " + silences[i], x.studio(SILENCE), silences[i]);
            Due.due("HOLE behind " + silences[i], x.studio(HOLE), due[i]);
            x.speak(0, 2);
            x.tenths(1);
            x.hush(0);
        }
    }

    /** "She is READY, if SILENCE is no less than what she WAITS". */
    private static void readyIfNoLess() {
        for (int kind = 0; kind < 5; kind++) {
            for (int wait : new int[] {1, 2, 60}) {
                DeadAir x = new DeadAir();
                x.air(1, 0);
                x.voice(kind, wait, 60);
                int waits = x.told(0, 7);
                Bounds.tenths(x, waits - 1);
                Due.due("one less: kind " + kind + " WAIT " + wait, x.told(0, 6), 0);
                x.tenths(1);
                Due.due("no less: kind " + kind + " WAIT " + wait, x.told(0, 6), 1);
            }
        }
    }

    private static void readyIfMore() {
        DeadAir x = new DeadAir();
        x.voice(5, 3, 60);
        x.tenths(50);
        x.turns(0, 0);
        x.tenths(1);
        Due.due("SILENCE is far more", x.told(0, 6), 1);
        Due.due("and stays as it is", x.studio(SILENCE), 51);
    }

    /** "(QUIET: never)". */
    private static void quietNever() {
        DeadAir x = new DeadAir();
        x.air(1, 0);
        Bounds.voices(x, 5, 5, 1, 1);
        Due.due("all are SILENT", x.tenths(100), 100);
        Due.due("all are SILENT", x.tenths(100), 100);
        Due.due("nobody began", x.studio(TURNS) + x.studio(CROSSED) + x.studio(BREATHS), 0);
        Due.due("no draws", x.count(6), 1);
        // one READY beside quiet ones is alone
        x.turns(4, 0);
        x.tenths(1);
        Due.due("alone", x.studio(TURNS), 1);
        Due.due("not crossed", x.studio(CROSSED), 0);
    }

    /** "One alone BEGINS (TURNS 1 more ..)". */
    private static void oneAloneBegins() {
        DeadAir x = new DeadAir();
        x.voice(0, 5, 60);
        x.voice(0, 6, 60);
        x.tenths(5);
        Due.due("she BEGINS", x.studio(SPEAK), 1);
        Due.due("TURNS", x.studio(TURNS), 1);
        Due.due("no BREATHS: none is LAST", x.studio(BREATHS), 0);
        Due.due("not CROSSED: the other one WAITS 1 more", x.studio(CROSSED), 0);
        Due.due("a draw for her alone", x.count(6), Bounds.drawn(1, 1));
    }

    /** "if she is LAST, BREATHS 1 more instead". */
    private static void oneAloneIfSheIsLast() {
        DeadAir x = new DeadAir();
        x.voice(0, 5, 60);
        x.voice(0, 7, 60);
        x.speak(0, 1);
        x.tenths(5);
        Due.due("she is LAST", x.studio(BREATHS), 1);
        Due.due("instead", x.studio(TURNS), 0);
        x.hush(0);
        x.speak(1, 1);
        x.tenths(5);
        Due.due("the other one is LAST", x.studio(LAST), 1);
        Due.due("a turn", x.studio(TURNS), 1);
        Due.due("no breath", x.studio(BREATHS), 1);
    }

    /** "If they are two or more, CROSSED is 1 more". */
    private static void twoOrMoreCross() {
        for (int many = 1; many <= 5; many++) {
            DeadAir x = new DeadAir();
            Bounds.voices(x, many, 1, 9, 60);
            x.tenths(7);
            Due.due("CROSSED of " + many, x.studio(CROSSED), many > 1 ? 1 : 0);
            Due.due("TURNS of " + many, x.studio(TURNS), many > 1 ? 0 : 1);
            Due.due("all speak", x.studio(SPEAK), (1 << many) - 1);
        }
    }

    private static void crossedIsNoBreath() {
        DeadAir x = new DeadAir();
        Bounds.voices(x, 2, 1, 9, 60);
        x.speak(1, 1);
        x.tenths(7);
        Due.due("CROSSED", x.studio(CROSSED), 1);
        Due.due("she who is LAST takes no breath", x.studio(BREATHS), 0);
        Due.due("and no turn", x.studio(TURNS), 0);
        Due.due("but BEGINS", x.told(1, 6), 2);
    }

    /** "by numbers each BEGINS who doesn't YIELD, of each who does BACK is the rest of a draw by 6". */
    private static void byNumbersEachDraws() {
        for (int z : new int[] {1, -1, Integer.MIN_VALUE, Integer.MAX_VALUE}) {
            DeadAir x = new DeadAir();
            x.seed(z);
            x.voice(0, 10, 60);
            x.voice(3, 22, 60);
            x.voice(2, 7, 60);
            x.voice(1, 12, 60);
            x.voice(4, 2, 60);
            x.tenths(10);
            int[] back = {1, 0, 3, 0, 5};
            int[] left = {0, 65, 0, 60, 0};
            for (int i = 0; i < 5; i++) {
                int dueBack = back[i] > 0 ? Bounds.draw(z, i + 1, 6) : 0;
                int dueLeft = left[i] > 0 ? 1 + Bounds.draw(z, i + 1, left[i]) : 0;
                Due.due("BACK of " + i + " by " + z, x.told(i, 5), dueBack);
                Due.due("LEFT of " + i + " by " + z, x.told(i, 4), dueLeft);
                Due.due("SAID of " + i, x.told(i, 6), left[i] > 0 ? 1 : 0);
            }
            Due.due("five draws", x.count(6), Bounds.drawn(z, 5));
        }
    }

    /** "those who are READY begin": who is not neither begins nor steps back, and draws nothing. */
    private static void whoIsNotReadyStaysOut() {
        DeadAir x = new DeadAir();
        x.voice(5, 1, 60);
        x.voice(0, 9, 60);
        x.voice(0, 10, 60);
        x.voice(1, 12, 60);
        x.voice(0, 9, 60);
        x.tenths(9);
        Due.due("1 and 4 cross", x.studio(CROSSED), 1);
        Due.due("BACK of 1", x.told(1, 5), Bounds.draw(1, 1, 6));
        Due.due("BACK of 4", x.told(4, 5), Bounds.draw(1, 2, 6));
        Due.due("two draws", x.count(6), Bounds.drawn(1, 2));
        Due.due("the HOST WAITS 10", x.studio(SPEAK), 0);
        for (int voice : new int[] {0, 2, 3}) {
            Due.due("BACK of " + voice, x.told(voice, 5), 0);
            Due.due("SAID of " + voice, x.told(voice, 6), 0);
        }
    }

    /** "if nobody speaks then, SILENCE is 0". */
    private static void ifNobodySpeaksThenSilenceIsZero() {
        for (int many = 2; many <= 5; many++) {
            DeadAir x = new DeadAir();
            Bounds.voices(x, many, 0, 9, 60);
            x.tenths(9);
            Due.due("SILENCE of " + many, x.studio(SILENCE), 0);
            Due.due("HOLE is not", x.studio(HOLE), 9);
            Due.due("the TENTH was SILENT", x.studio(SILENT), 9);
            Due.due("SAID of nobody", x.told(0, 6), 0);
        }
    }

    private static void ifOneSpeaksSilenceStays() {
        DeadAir x = new DeadAir();
        Bounds.voices(x, 4, 0, 9, 60);
        x.voice(1, 11, 60);
        x.tenths(9);
        Due.due("the last by number speaks", x.studio(SPEAK), 16);
        Due.due("SILENCE", x.studio(SILENCE), 9);
    }

    /** "LEFT is 1 and the rest of a draw by what she TALKS, SAID is 1 more". */
    private static void leftIsOneAndTheRest() {
        int[] kinds = {0, 0, 2, 3, 3, 4};
        int[] talk = {1, 60, 1, 1, 60, 60};
        int[] talks = {1, 60, 1, 6, 65, 31};
        for (int i = 0; i < kinds.length; i++) {
            for (int rest : new int[] {0, talks[i] - 1}) {
                DeadAir x = new DeadAir();
                int z = Bounds.seedFor(1, talks[i], rest);
                x.seed(z);
                x.air(1, 0);
                x.voice(kinds[i], 1, talk[i]);
                x.tenths(x.told(0, 7));
                Due.due("LEFT of kind " + kinds[i] + " TALK " + talk[i], x.told(0, 4), 1 + rest);
                Due.due("SAID", x.told(0, 6), 1);
                Due.due("a draw, even by 1", x.count(6), Bounds.drawn(z, 1));
            }
        }
    }

    private static void backIsTheRest() {
        for (int rest = 0; rest < 6; rest++) {
            DeadAir x = new DeadAir();
            x.seed(Bounds.seedFor(2, 6, rest));
            Bounds.voices(x, 2, 0, 9, 60);
            x.tenths(9);
            Due.due("BACK " + rest, x.told(1, 5), rest);
            Due.due("she WAITS so much longer", x.told(1, 7), 9 + rest);
        }
        // told anew at each crossing, not put on
        DeadAir y = new DeadAir();
        Bounds.voices(y, 2, 0, 9, 60);
        y.tenths(9);
        Due.due("both step back alike", y.told(0, 5), y.told(1, 5));
        y.tenths(9 + y.told(0, 5));
        Due.due("so they cross again", y.studio(CROSSED), 2);
        Due.due("BACK anew", y.told(0, 5), Bounds.draw(1, 3, 6));
        Due.due("BACK anew", y.told(1, 5), Bounds.draw(1, 4, 6));
    }

    /** "BACK is 0" of who BEGINS. */
    private static void backIsZeroBehindBeginning() {
        DeadAir x = new DeadAir();
        x.seed(Bounds.seedFor(1, 6, 5));
        Bounds.voices(x, 2, 0, 9, 60);
        x.tenths(9);
        Due.due("BACK", x.told(0, 5), 5);
        x.turns(1, 5);
        x.tenths(13);
        Due.due("not yet", x.told(0, 5), 5);
        x.tenths(1);
        Due.due("begun", x.told(0, 6), 1);
        Due.due("0", x.told(0, 5), 0);
        DeadAir y = new DeadAir();
        y.seed(Bounds.seedFor(1, 6, 5));
        Bounds.voices(y, 2, 0, 9, 60);
        y.tenths(9);
        y.turns(0, 5);
        y.turns(1, 5);
        y.tenths(20);
        y.turns(0, 1);
        y.turns(1, 1);
        y.tenths(1);
        Due.due("hosts who cross", y.studio(CROSSED), 2);
        Due.due("0 of one who doesn't YIELD too", y.told(0, 5), 0);
    }

    /** "if FILL is not 0, and SILENCE is FILL". */
    private static void silenceIsFill() {
        for (int fill : new int[] {1, 2, 20, 200}) {
            DeadAir x = new DeadAir();
            x.air(1, 0);
            x.air(2, fill);
            Bounds.tenths(x, fill - 1);
            Due.due("one less than FILL " + fill, x.studio(JINGLES), 0);
            Due.due("SILENCE", x.studio(SILENCE), fill - 1);
            x.tenths(1);
            Due.due("FILL " + fill, x.studio(JINGLES), 1);
            Due.due("SILENCE is 0", x.studio(SILENCE), 0);
            Due.due("HOLE is FILL", x.studio(HOLE), fill);
        }
        DeadAir y = new DeadAir();
        y.tenths(20);
        y.air(2, 20);
        y.tenths(5);
        Due.due("more than FILL", y.studio(JINGLES), 0);
        Due.due("SILENCE goes on", y.studio(SILENCE), 25);
    }

    private static void fillZeroIsNoJingle() {
        DeadAir x = new DeadAir();
        x.air(1, 0);
        Bounds.tenths(x, 300);
        Due.due("no jingle", x.studio(JINGLES), 0);
        Due.due("SILENCE goes on", x.studio(SILENCE), 300);
    }

    /** "LISTENERS are fewer by as many as JINGLES are (0 at least), JINGLES is 1 more". */
    private static void fewerByJingles() {
        int[][] due = {{4, 1}, {3, 0}, {2, 0}, {0, 0}};
        for (int[] d : due) {
            DeadAir x = new DeadAir();
            x.air(2, 1);
            x.tenths(3);
            Due.due("0, 1, 2 fewer", x.studio(LISTENERS), 997);
            x.air(0, d[0]);
            x.tenths(1);
            Due.due("3 fewer than " + d[0], x.studio(LISTENERS), d[1]);
            Due.due("JINGLES", x.studio(JINGLES), 4);
        }
    }

    /** "if CUT is not 0, and SILENCE is CUT or more". */
    private static void silenceIsCutOrMore() {
        for (int cut : new int[] {1, 2, 110, 200}) {
            DeadAir x = new DeadAir();
            Due.text(x, "off 0");
            x.air(1, cut);
            Bounds.tenths(x, cut - 1);
            Due.due("one less than CUT " + cut, x.studio(CUTS), 0);
            Due.due("SILENCE", x.studio(SILENCE), cut - 1);
            x.tenths(1);
            Due.due("CUT " + cut, x.studio(CUTS), 1);
            Due.due("half", x.studio(LISTENERS), 500);
            Due.due("SILENCE is 0", x.studio(SILENCE), 0);
        }
        DeadAir y = new DeadAir();
        y.tenths(19);
        y.air(1, 1);
        y.tenths(1);
        Due.due("or more", y.studio(CUTS), 1);
        Due.due("SILENCE is 0", y.studio(SILENCE), 0);
    }

    private static void cutZeroIsNoDevice() {
        DeadAir x = new DeadAir();
        Due.text(x, "off 0");
        x.air(1, 0);
        Bounds.tenths(x, 500);
        Due.due("no device", x.studio(CUTS), 0);
        Due.due("SILENCE", x.studio(SILENCE), 500);
        Due.due("LISTENERS", x.studio(LISTENERS), 1000);
    }

    /** "LISTENERS are half (cut), CUTS is 1 more". */
    private static void listenersAreHalf() {
        int[] before = {9999, 3, 2, 1, 0};
        int[] due = {4999, 1, 1, 0, 0};
        for (int i = 0; i < before.length; i++) {
            DeadAir x = new DeadAir();
            x.air(1, 1);
            x.air(0, before[i]);
            x.tenths(1);
            Due.due("half of " + before[i], x.studio(LISTENERS), due[i]);
            Due.due("CUTS", x.studio(CUTS), 1);
        }
    }

    /** "if FILL ..; else, if CUT ..". */
    private static void fillElseCut() {
        int[][] due = {{5, 5, 1, 0}, {5, 4, 1, 0}, {5, 6, 0, 1}, {5, 0, 0, 1}, {0, 5, 1, 0}, {0, 0, 0, 0}};
        for (int[] d : due) {
            DeadAir x = new DeadAir();
            x.air(1, d[0]);
            x.air(2, d[1]);
            x.tenths(5);
            String which = "CUT " + d[0] + " FILL " + d[1];
            Due.due(which + ": JINGLES", x.studio(JINGLES), d[2]);
            Due.due(which + ": CUTS", x.studio(CUTS), d[3]);
            Due.due(which + ": a jingle or a cut, nobody turns off besides", x.studio(LISTENERS),
                d[3] == 1 ? 500 : 1000);
        }
    }

    /** "(4) If nobody speaks": not in the TENTH in which one BEGINS. */
    private static void neitherWhenOneBegins() {
        for (int what = 0; what < 3; what++) {
            DeadAir x = new DeadAir();
            Due.text(x, "off 9*(s>3)");
            x.air(1, what == 1 ? 4 : 0);
            x.air(2, what == 2 ? 4 : 0);
            x.voice(0, 4, 60);
            x.tenths(4);
            Due.due("she speaks", x.studio(SPEAK), 1);
            Due.due("no jingle, no cut", x.studio(JINGLES) + x.studio(CUTS), 0);
            Due.due("nobody turns off", x.studio(LISTENERS), 1000);
            Due.due("SILENCE stays", x.studio(SILENCE), 4);
        }
    }

    /** "and SILENCE is not 0": not in the TENTH in which all who cross yield. */
    private static void neitherWhenSilenceIsZero() {
        for (int what = 0; what < 3; what++) {
            DeadAir x = new DeadAir();
            Due.text(x, "off 9*(s>3)+9*(s=0)");
            x.air(1, what == 1 ? 4 : 0);
            x.air(2, what == 2 ? 4 : 0);
            Bounds.voices(x, 2, 0, 4, 60);
            x.tenths(4);
            Due.due("they crossed", x.studio(CROSSED), 1);
            Due.due("no jingle, no cut", x.studio(JINGLES) + x.studio(CUTS), 0);
            Due.due("nobody turns off", x.studio(LISTENERS), 1000);
        }
    }

    /** "(without a TEXT: SILENCE by 20, cut)". */
    private static void withoutATextByTwenty() {
        int[] silence = {19, 20, 39, 40, 199, 200};
        int[] due = {0, 1, 1, 2, 9, 10};
        for (int i = 0; i < silence.length; i++) {
            DeadAir x = new DeadAir();
            x.air(1, 0);
            Bounds.tenths(x, silence[i] - 1);
            x.air(0, 1000);
            x.tenths(1);
            Due.due("SILENCE " + silence[i], x.studio(LISTENERS), 1000 - due[i]);
            x.air(0, due[i]);
            x.tenths(1);
            Due.due("no more than there are", x.studio(LISTENERS), 0);
        }
    }

    /** "fewer by what off gives, held within 0 and how many there are". */
    private static void offHeldWithin() {
        String[] off = {"0-1", "0", "1", "6", "7", "8", "9999*9999", "0-9999*9999",
            "8192*8192*32", "8192*8192*32-1"};
        int[] due = {7, 7, 6, 1, 0, 0, 0, 7, 7, 0};
        for (int i = 0; i < off.length; i++) {
            DeadAir x = new DeadAir();
            x.air(0, 7);
            Due.due("told: off " + off[i], Due.text(x, "off " + off[i]), 0);
            x.tenths(1);
            Due.due("7, off " + off[i], x.studio(LISTENERS), due[i]);
        }
        DeadAir y = new DeadAir();
        y.air(0, 0);
        Due.text(y, "off 1");
        y.tenths(1);
        Due.due("of none none", y.studio(LISTENERS), 0);
    }

    /** SILENCE, HOLE are those of (2); LISTENERS those before anybody turns off. */
    private static void offSeesThisTenth() {
        DeadAir x = new DeadAir();
        Due.text(x, "off s*100+h*10+(l=1000)");
        x.tenths(1);
        Due.due("in the first TENTH", x.studio(LISTENERS), 1000 - 111);
        x.tenths(1);
        Due.due("in the second TENTH", x.studio(LISTENERS), 889 - 220);
    }

    /** Promise 12: "n (1 .. 100) TENTHS .. BAD." */
    private static void tenthsBounds() {
        Bounds.range("tenths, n 1 .. 100", Bounds.BARE, (x, v) -> x.tenths(v), 1, 100, 1, 100);
        Bounds.range("tenths, n 1 .. 100", Bounds.CROWD, (x, v) -> x.tenths(v), 1, 100,
            silentBehind(1), silentBehind(100));
        Due.due("1 ran", ran(1), 1);
        Due.due("100 ran", ran(100), 100);
    }

    private static int silentBehind(int n) {
        DeadAir x = Bounds.made(Bounds.CROWD);
        return x.behind(n, 1) - x.behind(0, 1);
    }

    private static int ran(int n) {
        DeadAir x = new DeadAir();
        x.tenths(n);
        return x.count(1);
    }

    /** "THE TENTH is .. 9999 at most", "(no more than up to 9999)". */
    private static void tenthsNoMoreThanUpTo() {
        DeadAir x = new DeadAir();
        Bounds.tenths(x, 9898);
        Due.due("one below the last hundred", x.tenths(100), 100);
        Due.due("9998", x.count(1), 9998);
        Due.due("one is left of two", x.tenths(2), 1);
        Due.due("9999", x.count(1), 9999);
        Due.due("none is left of one", x.tenths(1), 0);
        Due.due("none is left of a hundred", x.tenths(100), 0);
        Due.due("BAD stands even so", x.tenths(101), BAD);
        Due.due("9999 at most", x.count(1), 9999);
        Due.due("SILENT", x.studio(SILENT), 9999);
        DeadAir y = new DeadAir();
        Bounds.tenths(y, 9950);
        y.voice(5, 1, 1);
        y.speak(0, 31);
        Due.due("49 ran, 30 of talk", y.tenths(50), 19);
        y.speak(0, 9);
        Due.due("nobody's time runs any more", y.tenths(100), 0);
        Due.due("LEFT stays", y.told(0, 4), 9);
    }

    private static void tenthsBackFromTheLast() {
        DeadAir x = new DeadAir();
        Bounds.tenths(x, 9998);
        x.keep();
        for (int again = 0; again < 2; again++) {
            Due.due("the last one", x.tenths(100), 1);
            x.back();
            Due.due("9998 again", x.count(1), 9998);
        }
    }

    /** Promise 13: "What is 0 LISTENERS .. 10 those who speak, as a set. BAD." */
    private static void studioBounds() {
        Bounds.range("studio, what", Bounds.BARE, (x, v) -> x.studio(v), 0, 10, 1000, 0);
        DeadAir x = Bounds.made(Bounds.CROWD);
        Bounds.range("studio, what", Bounds.CROWD, (y, v) -> y.studio(v), 0, 10, 777, x.studio(10));
        Bounds.unchanged("studio changes nothing", Bounds.CROWD, y -> y.studio(7), 3);
    }

    /** "Sets of VOICES are told by bits." */
    private static void studioSets() {
        DeadAir x = new DeadAir();
        Bounds.voices(x, 5, 5, 1, 1);
        Due.due("none", x.studio(SPEAK), 0);
        int set = 0;
        for (int i = 4; i >= 0; i--) {
            x.speak(i, 1 + i);
            set |= 1 << i;
            Due.due("with " + i, x.studio(SPEAK), set);
        }
        for (int i = 0; i < 5; i++) {
            x.tenths(1);
            set &= ~(1 << i);
            Due.due("without " + i, x.studio(SPEAK), set);
        }
    }
}
