/** Promises 12 and 13, and what a tenth does: tenths, studio. */
public final class TenthsTest {
    private static final int LISTENERS = 0, SILENCE = 1, SILENT = 2, HOLE = 3, BREATHS = 4,
        TURNS = 5, CROSSED = 6, JINGLES = 7, CUTS = 8, LAST = 9, SPEAK = 10;

    private TenthsTest() {
    }

    public static void main(String[] args) {
        bounds();
        upToTheLastTenth();
        oneAlone();
        silenceGoesOnBehindOneTenthOfTalk();
        hostAndVoiceCross();
        twoHostsCross();
        twoWhoYieldCross();
        drawsByNumbers();
        backEndsWithBeginning();
        quietIsNeverReady();
        lastIsTheHighestWhoEnds();
        pauseHoldsTheLastBack();
        jingles();
        device();
        jingleAheadOfDevice();
        listenersWithoutText();
        listenersByText();
        listenersHoldStill();
        Due.end();
    }

    private static void bounds() {
        DeadAir x = new DeadAir();
        Due.due("tenths 0", x.tenths(0), DeadAir.BAD);
        Due.due("tenths 101", x.tenths(101), DeadAir.BAD);
        Due.due("tenths -1", x.tenths(-1), DeadAir.BAD);
        Due.due("none ran", x.count(1), 0);
        Due.due("tenths 100", x.tenths(100), 100);
        Due.due("ran", x.count(1), 100);
        Due.due("studio -1", x.studio(-1), DeadAir.BAD);
        Due.due("studio 11", x.studio(11), DeadAir.BAD);
    }

    private static void upToTheLastTenth() {
        DeadAir x = new DeadAir();
        for (int i = 0; i < 99; i++) {
            x.tenths(100);
        }
        Due.due("9900", x.count(1), 9900);
        Due.due("99 more", x.tenths(100), 99);
        Due.due("9999", x.count(1), 9999);
        Due.due("none more", x.tenths(1), 0);
        Due.due("9999 still", x.count(1), 9999);
        Due.due("silent", x.studio(SILENT), 9999);
        Due.due("thought goes beyond", x.behind(7, 1), 10006);
    }

    private static void oneAlone() {
        DeadAir x = new DeadAir();
        x.voice(0, 4, 30);
        Due.due("3 silent", x.tenths(3), 3);
        Due.due("nobody yet", x.studio(SPEAK), 0);
        Due.due("fourth is silent too", x.tenths(1), 1);
        int left = 1 + Due.draw(1, 1, 30);
        Due.holds("she speaks for some tenths", left > 2);
        Due.due("begun", x.told(0, 4), left);
        Due.due("said", x.told(0, 6), 1);
        Due.due("turns", x.studio(TURNS), 1);
        Due.due("breaths", x.studio(BREATHS), 0);
        Due.due("speaks", x.studio(SPEAK), 1);
        Due.due("silence stays", x.studio(SILENCE), 4);
        Due.due("hole", x.studio(HOLE), 4);
        Due.due("one draw", x.count(6), Due.drawn(1, 1));
        Due.due("none silent", x.tenths(left - 1), 0);
        Due.due("silence is over", x.studio(SILENCE), 0);
        Due.due("one left", x.told(0, 4), 1);
        Due.due("not yet last", x.studio(LAST), -1);
        Due.due("she ends", x.tenths(1), 1);
        Due.due("last", x.studio(LAST), 0);
        Due.due("silence", x.studio(SILENCE), 1);
        Due.due("to her breath", x.tenths(3), 3);
        Due.due("breaths 1", x.studio(BREATHS), 1);
        Due.due("turns still 1", x.studio(TURNS), 1);
        Due.due("said 2", x.told(0, 6), 2);
        Due.due("silent 8", x.studio(SILENT), 8);
        Due.due("hole still 4", x.studio(HOLE), 4);
        Due.due("nothing crossed", x.studio(CROSSED), 0);
    }

    private static void silenceGoesOnBehindOneTenthOfTalk() {
        DeadAir x = new DeadAir();
        x.voice(0, 3, 1);
        x.tenths(3);
        Due.due("begun for one", x.told(0, 4), 1);
        Due.due("next is silent", x.tenths(1), 1);
        Due.due("silence went on", x.studio(SILENCE), 4);
        Due.due("hole", x.studio(HOLE), 4);
        Due.due("and she breathes", x.studio(BREATHS), 1);
    }

    private static void hostAndVoiceCross() {
        DeadAir x = new DeadAir();
        x.voice(0, 4, 6);
        x.voice(1, 6, 25);
        x.tenths(4);
        Due.due("crossed", x.studio(CROSSED), 1);
        Due.due("no turn", x.studio(TURNS), 0);
        Due.due("no breath", x.studio(BREATHS), 0);
        Due.due("the host speaks", x.studio(SPEAK), 2);
        Due.due("the voice steps back", x.told(0, 5), Due.draw(1, 1, 6));
        Due.due("for so long", x.told(1, 4), 1 + Due.draw(1, 2, 25));
        Due.due("said of the host", x.told(1, 6), 1);
        Due.due("said of the voice", x.told(0, 6), 0);
        Due.due("silence stays", x.studio(SILENCE), 4);
    }

    private static void twoHostsCross() {
        DeadAir x = new DeadAir();
        x.voice(3, 8, 30);
        x.voice(1, 5, 30);
        x.voice(5, 1, 9);
        x.tenths(3);
        Due.due("both speak", x.studio(SPEAK), 3);
        Due.due("lead", x.told(0, 4), 1 + Due.draw(1, 1, 35));
        Due.due("host", x.told(1, 4), 1 + Due.draw(1, 2, 30));
        Due.due("crossed", x.studio(CROSSED), 1);
        Due.due("two draws", x.count(6), Due.drawn(1, 2));
    }

    private static void twoWhoYieldCross() {
        DeadAir x = new DeadAir();
        x.voice(0, 5, 5);
        x.voice(2, 2, 5);
        Due.due("text", Due.text(x, "off 7"), 0);
        Due.due("silent", x.tenths(5), 5);
        Due.due("crossed", x.studio(CROSSED), 1);
        Due.due("nobody speaks", x.studio(SPEAK), 0);
        Due.due("silence is 0", x.studio(SILENCE), 0);
        Due.due("hole", x.studio(HOLE), 5);
        Due.due("no listener left by it", x.studio(LISTENERS), 1000 - 4 * 7);
    }

    private static void drawsByNumbers() {
        DeadAir x = new DeadAir();
        x.seed(12345);
        x.voice(1, 7, 40);
        x.voice(0, 5, 40);
        x.voice(1, 7, 20);
        x.voice(4, 2, 40);
        x.voice(2, 2, 40);
        x.tenths(5);
        Due.due("crossed", x.studio(CROSSED), 1);
        Due.due("first", x.told(0, 4), 1 + Due.draw(12345, 1, 40));
        Due.due("second", x.told(1, 5), Due.draw(12345, 2, 6));
        Due.due("third", x.told(2, 4), 1 + Due.draw(12345, 3, 20));
        Due.due("fourth is not ready", x.told(3, 5), 0);
        Due.due("fifth", x.told(4, 5), Due.draw(12345, 4, 6));
        Due.due("four draws", x.count(6), Due.drawn(12345, 4));
    }

    private static void backEndsWithBeginning() {
        DeadAir x = new DeadAir();
        x.voice(0, 5, 5);
        x.voice(0, 5, 5);
        x.tenths(5);
        int back = x.told(0, 5);
        Due.holds("she stepped back", back > 0);
        x.turns(1, 5);
        x.tenths(5 + back);
        Due.due("begun", x.told(0, 6), 1);
        Due.due("back is over", x.told(0, 5), 0);
        Due.due("the other's stays", x.told(1, 5), Due.draw(1, 2, 6));
    }

    private static void quietIsNeverReady() {
        DeadAir x = new DeadAir();
        x.voice(5, 1, 1);
        Due.due("silent", x.tenths(100), 100);
        Due.due("said", x.told(0, 6), 0);
        Due.due("may be made to speak", x.speak(0, 3), 0);
        Due.due("then there is talk", x.tenths(5), 3);
        Due.due("last", x.studio(LAST), 0);
    }

    private static void lastIsTheHighestWhoEnds() {
        DeadAir x = new DeadAir();
        for (int i = 0; i < 4; i++) {
            x.voice(5, 1, 1);
        }
        x.speak(2, 2);
        x.speak(0, 2);
        x.speak(1, 2);
        x.speak(3, 3);
        x.tenths(2);
        Due.due("last", x.studio(LAST), 2);
        Due.due("one speaks", x.studio(SPEAK), 8);
        Due.due("it was no silence", x.studio(SILENT), 0);
    }

    private static void pauseHoldsTheLastBack() {
        DeadAir x = new DeadAir();
        x.voice(0, 3, 9);
        x.voice(0, 6, 9);
        x.set(0, 3, 10);
        x.speak(0, 1);
        x.tenths(6);
        Due.due("the other begins", x.told(1, 6), 1);
        Due.due("as a turn", x.studio(TURNS), 1);
        Due.due("the last has not", x.told(0, 6), 1);
    }

    private static void jingles() {
        DeadAir x = new DeadAir();
        x.air(2, 3);
        x.tenths(2);
        Due.due("none yet", x.studio(JINGLES), 0);
        x.tenths(1);
        Due.due("one", x.studio(JINGLES), 1);
        Due.due("silence", x.studio(SILENCE), 0);
        Due.due("the first costs none", x.studio(LISTENERS), 1000);
        x.tenths(3);
        Due.due("the second costs one", x.studio(LISTENERS), 999);
        x.tenths(3);
        Due.due("the third two", x.studio(LISTENERS), 997);
        Due.due("hole", x.studio(HOLE), 3);
        Due.due("silent", x.studio(SILENT), 9);
        x.air(0, 2);
        x.tenths(3);
        Due.due("no fewer than none", x.studio(LISTENERS), 0);
        Due.due("four", x.studio(JINGLES), 4);
        // a silence that is beyond FILL already gets none
        DeadAir y = new DeadAir();
        y.tenths(9);
        y.air(2, 9);
        y.tenths(1);
        Due.due("too late", y.studio(JINGLES), 0);
        Due.due("silence goes on", y.studio(SILENCE), 10);
    }

    private static void device() {
        DeadAir x = new DeadAir();
        x.air(0, 999);
        x.air(1, 5);
        x.tenths(4);
        Due.due("not yet", x.studio(CUTS), 0);
        x.tenths(1);
        Due.due("cut", x.studio(CUTS), 1);
        Due.due("half", x.studio(LISTENERS), 499);
        Due.due("silence", x.studio(SILENCE), 0);
        x.tenths(5);
        Due.due("half again", x.studio(LISTENERS), 249);
        DeadAir y = new DeadAir();
        y.tenths(9);
        y.air(1, 4);
        y.tenths(1);
        Due.due("or more", y.studio(CUTS), 1);
        DeadAir z = new DeadAir();
        z.tenths(100);
        z.tenths(9);
        Due.due("109", z.studio(CUTS), 0);
        z.tenths(1);
        Due.due("110 at first", z.studio(CUTS), 1);
    }

    private static void jingleAheadOfDevice() {
        DeadAir x = new DeadAir();
        x.air(1, 4);
        x.air(2, 4);
        x.tenths(4);
        Due.due("a jingle", x.studio(JINGLES), 1);
        Due.due("no cut", x.studio(CUTS), 0);
    }

    private static void listenersWithoutText() {
        DeadAir x = new DeadAir();
        x.air(1, 0);
        x.tenths(19);
        Due.due("19", x.studio(LISTENERS), 1000);
        x.tenths(1);
        Due.due("20", x.studio(LISTENERS), 999);
        x.tenths(80);
        // 20 times 1, 2, 3, 4, and 5 in the last
        Due.due("100", x.studio(LISTENERS), 1000 - 20 - 40 - 60 - 80 - 5);
        Due.due("no cut without device", x.studio(CUTS), 0);
        x.air(0, 4);
        x.tenths(1);
        Due.due("no more than there are", x.studio(LISTENERS), 0);
    }

    private static void listenersByText() {
        DeadAir x = new DeadAir();
        x.tenths(7);
        x.voice(5, 1, 1);
        x.speak(0, 2);
        x.tenths(2);
        Due.due("silence anew", x.studio(SILENCE), 1);
        Due.due("text", Due.text(x, "off s*100+l/10+h"), 0);
        x.tenths(1);
        Due.due("s 2, l 1000, h 7", x.studio(LISTENERS), 1000 - 200 - 100 - 7);
        Due.text(x, "off 3");
        x.tenths(1);
        Due.due("the newer counts", x.studio(LISTENERS), 690);
        Due.text(x, "fee 99");
        x.tenths(1);
        Due.due("fee is no off", x.studio(LISTENERS), 687);
        Due.text(x, "off 0-5");
        x.tenths(1);
        Due.due("none come", x.studio(LISTENERS), 687);
        Due.text(x, "off l+1");
        x.tenths(1);
        Due.due("no more than there are", x.studio(LISTENERS), 0);
    }

    private static void listenersHoldStill() {
        // while somebody speaks, or begins in that very tenth, nobody turns off
        DeadAir x = new DeadAir();
        Due.text(x, "off 7");
        x.voice(1, 3, 60);
        x.tenths(1);
        Due.due("she began", x.told(0, 6), 1);
        Due.due("none fewer", x.studio(LISTENERS), 1000);
        x.speak(0, 50);
        x.tenths(20);
        Due.due("none fewer in talk", x.studio(LISTENERS), 1000);
    }
}
