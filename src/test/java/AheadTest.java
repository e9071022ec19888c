/** Promises 14 to 24: behind, next, hole, patience, device, filler, becomes, apart, whose, fee, fine. */
public final class AheadTest {
    private static final int BAD = DeadAir.BAD, NONE = DeadAir.NONE;

    private AheadTest() {
    }

    public static void main(String[] args) {
        behind();
        behindIsWhatComes();
        next();
        nextAtTheEdge();
        hole();
        patience();
        device();
        filler();
        becomes();
        apart();
        whose();
        whoseBounds();
        fee();
        fine();
        onlyThought();
        Due.end();
    }

    private static void behind() {
        DeadAir x = new DeadAir();
        Due.due("now", x.behind(0, 0), 1000);
        Due.due("silent behind 100", x.behind(100, 1), 100);
        Due.due("listeners behind 40", x.behind(40, 0), 1000 - 20 - 2);
        int[][] bad = {{-1, 0}, {101, 0}, {0, -1}, {0, 3}, {0, Integer.MAX_VALUE},
            {Integer.MIN_VALUE, 0}};
        for (int[] b : bad) {
            Due.due("behind bad", x.behind(b[0], b[1]), BAD);
        }
        x.voice(0, 5, 5);
        x.voice(0, 5, 5);
        Due.due("crossed behind 4", x.behind(4, 2), 0);
        Due.due("crossed behind 5", x.behind(5, 2), 1);
        x.voice(1, 3, 60);
        Due.due("said of 2 behind 1", x.behind(1, 5), 1);
        Due.due("said of 1 behind 1", x.behind(1, 4), 0);
        Due.due("no voice 3", x.behind(1, 6), BAD);
    }

    private static void behindIsWhatComes() {
        DeadAir x = new DeadAir();
        x.seed(99);
        x.deal(5);
        x.air(2, 2);
        Due.text(x, "off s*2");
        for (int n = 1; n <= 60; n += 7) {
            int listeners = x.behind(n, 0);
            int silent = x.behind(n, 1);
            int crossed = x.behind(n, 2);
            int said = x.behind(n, 7);
            x.tenths(n);
            Due.due("listeners came", x.studio(0), listeners);
            Due.due("silent came", x.studio(2), silent);
            Due.due("crossed came", x.studio(6), crossed);
            Due.due("said came", x.told(4, 6), said);
        }
    }

    private static void next() {
        DeadAir x = new DeadAir();
        Due.due("nobody", x.next(0), NONE);
        Due.due("nobody", x.next(1), NONE);
        Due.due("next -1", x.next(-1), BAD);
        Due.due("next 2", x.next(2), BAD);
        x.voice(0, 9, 3);
        Due.due("0", x.next(0), 0);
        Due.due("in 9", x.next(1), 9);
        x.voice(0, 4, 3);
        Due.due("1", x.next(0), 1);
        Due.due("in 4", x.next(1), 4);
        x.tenths(3);
        Due.due("in 1", x.next(1), 1);
        x.turns(0, 5);
        x.turns(1, 5);
        Due.due("all quiet", x.next(0), NONE);
        // several in one tenth: the least
        x.voice(5, 1, 1);
        x.voice(1, 9, 3);
        x.voice(1, 9, 3);
        Due.due("of two hosts", x.next(0), 3);
        Due.due("in 4", x.next(1), 4);
        // told to speak is said already
        x.speak(4, 10);
        Due.due("behind her", x.next(1), 10 + 6);
    }

    private static void nextAtTheEdge() {
        DeadAir x = new DeadAir();
        x.air(1, 0);
        x.voice(4, 60, 5);
        x.speak(0, 1);
        x.hush(0);
        x.set(0, 3, 37);
        Due.due("waits 200", x.told(0, 7), 200);
        Due.due("in 200", x.next(1), 200);
        Due.due("she", x.next(0), 0);
        x.set(0, 3, 38);
        Due.due("202", x.next(0), NONE);
        x.tenths(1);
        Due.due("201", x.next(1), NONE);
        x.tenths(1);
        Due.due("200", x.next(1), 200);
    }

    private static void hole() {
        DeadAir x = new DeadAir();
        Due.due("hole 0", x.hole(0), BAD);
        Due.due("hole 201", x.hole(201), BAD);
        Due.due("hole -1", x.hole(-1), BAD);
        Due.due("1", x.hole(1), 1);
        Due.due("109", x.hole(109), 109);
        Due.due("the device cuts in only then", x.hole(110), 110);
        Due.due("and then it is over", x.hole(111), NONE);
        x.air(1, 0);
        Due.due("200", x.hole(200), 200);
        x.tenths(30);
        Due.due("s or more already", x.hole(12), 1);
        Due.due("170 more", x.hole(200), 170);
        x.air(2, 40);
        Due.due("a jingle", x.hole(40), 10);
        Due.due("fills it", x.hole(41), NONE);
        x.air(2, 0);
        x.voice(5, 1, 1);
        x.speak(0, 60);
        Due.due("behind her talk", x.hole(141), 200);
        Due.due("one too far", x.hole(142), NONE);
        DeadAir y = new DeadAir();
        y.voice(0, 3, 60);
        Due.due("she begins only then", y.hole(3), 3);
        Due.due("by then no longer", y.hole(4), NONE);
    }

    private static void patience() {
        // with WAIT 1 both cross and lose two; with 2 the first one speaks on
        DeadAir x = new DeadAir();
        x.voice(0, 1, 60);
        x.voice(0, 30, 60);
        Due.text(x, "off 1");
        Due.due("they would both step back for two", Due.draw(1, 1, 6), 2);
        Due.due("they would both step back for two", Due.draw(1, 2, 6), 2);
        Due.holds("she would speak on", Due.draw(1, 1, 60) >= 3);
        Due.due("two", x.patience(1, 3, 0), 2);
        Due.due("all stay", x.patience(1, 3, 1), 1000);
        // a lone voice: the sooner the better; of several the least
        DeadAir y = new DeadAir();
        y.voice(0, 30, 60);
        Due.text(y, "off 1");
        Due.due("one", y.patience(0, 20, 0), 1);
        Due.due("none lost", y.patience(0, 20, 1), 1000);
        y.turns(0, 5);
        Due.due("quiet: all alike", y.patience(0, 20, 0), 1);
        Due.due("quiet: 20 lost", y.patience(0, 20, 1), 980);
        // the whole range is tried: 60 alone keeps her out of the way of the other one
        DeadAir z = new DeadAir();
        z.air(1, 0);
        z.voice(5, 59, 60);
        z.voice(5, 59, 60);
        z.tenths(58);
        z.turns(0, 0);
        z.turns(1, 0);
        z.air(0, 1000);
        Due.text(z, "off 1");
        Due.due("sixty", z.patience(1, 2, 0), 60);
        Due.due("all stay then", z.patience(1, 2, 1), 1000);
        // one tenth later 61 would be best, but is not tried
        DeadAir w = silenceOf(59, 59);
        w.turns(0, 0);
        w.turns(1, 0);
        w.air(0, 1000);
        Due.text(w, "off 1");
        Due.due("all alike", w.patience(1, 2, 0), 1);
        Due.due("one is lost", w.patience(1, 2, 1), 999);
        int[][] bad = {{2, 1, 0}, {-1, 1, 0}, {0, 0, 0}, {0, 61, 0}, {0, 1, -1}, {0, 1, 2}};
        for (int[] b : bad) {
            Due.due("patience bad", x.patience(b[0], b[1], b[2]), BAD);
        }
        Due.due("n 60", y.patience(0, 60, 1), 940);
        Due.due("n 1", y.patience(0, 1, 1), 999);
    }

    private static void device() {
        DeadAir x = new DeadAir();
        Due.text(x, "off 50");
        Due.due("none by then", x.device(10, 0), 15);
        Due.due("half", x.device(10, 1), 500);
        Due.text(x, "off 200");
        Due.due("at once", x.device(5, 0), 5);
        Due.due("100", x.device(5, 1), 100);
        // a silence that is long already: only the farthest cut keeps them
        DeadAir y = new DeadAir();
        y.air(1, 0);
        y.tenths(100);
        y.tenths(96);
        y.air(0, 1000);
        Due.text(y, "off 0");
        Due.due("200", y.device(3, 0), 200);
        Due.due("all", y.device(3, 1), 1000);
        Due.due("too near for all", y.device(4, 0), 5);
        Due.due("half", y.device(4, 1), 500);
        int[][] bad = {{0, 0}, {61, 0}, {1, -1}, {1, 2}};
        for (int[] b : bad) {
            Due.due("device bad", x.device(b[0], b[1]), BAD);
        }
        Due.due("cut stays", x.count(2), 110);
    }

    private static void filler() {
        DeadAir x = new DeadAir();
        Due.text(x, "off 50");
        Due.due("each tenth", x.filler(10, 0), 1);
        Due.due("45 fewer", x.filler(10, 1), 955);
        Due.text(x, "off 20");
        // 40 times 20, and jingles 0 .. 19
        Due.due("each third", x.filler(60, 0), 3);
        Due.due("10 stay", x.filler(60, 1), 10);
        Due.text(x, "off 0");
        Due.due("none", x.filler(60, 0), 0);
        Due.due("all stay", x.filler(60, 1), 1000);
        // 60 is the last that is tried
        DeadAir y = new DeadAir();
        y.air(1, 0);
        y.tenths(59);
        y.air(0, 1000);
        Due.text(y, "off 9*(s>59)");
        Due.due("60", y.filler(1, 0), 60);
        Due.due("all stay", y.filler(1, 1), 1000);
        y.tenths(1);
        y.air(0, 1000);
        Due.due("61 is beyond", y.filler(1, 1), 991);
        Due.due("so none", y.filler(1, 0), 0);
        int[][] bad = {{0, 0}, {61, 0}, {1, -1}, {1, 2}};
        for (int[] b : bad) {
            Due.due("filler bad", x.filler(b[0], b[1]), BAD);
        }
    }

    private static void becomes() {
        DeadAir x = new DeadAir();
        x.voice(5, 5, 40);
        Due.text(x, "off 1");
        Due.due("lead", x.becomes(0, 1, 0), 3);
        Due.due("none lost", x.becomes(0, 1, 1), 1000);
        x.set(0, 1, 10);
        // HOST waits 8, LEAD 4: in 3 tenths all are alike
        Due.due("the least", x.becomes(0, 3, 0), 0);
        Due.due("three lost", x.becomes(0, 3, 1), 997);
        Due.due("lead again", x.becomes(0, 4, 0), 3);
        Due.due("three lost", x.becomes(0, 4, 1), 997);
        // a silence that is long already: one who yields steps back with the guest, a host speaks
        DeadAir y = silenceOf(90, 20);
        y.turns(0, 2);
        y.air(0, 500);
        Due.text(y, "off 1");
        Due.holds("the host would speak on", Due.draw(1, 2, 60) >= 5);
        Due.due("host", y.becomes(1, 5, 0), 1);
        Due.due("all stay", y.becomes(1, 5, 1), 500);
        int[][] bad = {{2, 1, 0}, {-1, 1, 0}, {0, 0, 0}, {0, 61, 0}, {0, 1, -1}, {0, 1, 2}};
        for (int[] b : bad) {
            Due.due("becomes bad", y.becomes(b[0], b[1], b[2]), BAD);
        }
        becomesByTrying();
    }

    private static void becomesByTrying() {
        for (int z = 0; z < 40; z++) {
            DeadAir x = new DeadAir();
            x.seed(z * 7919);
            x.deal(3);
            Due.text(x, "off s");
            isBestKind(x, 1, 50);
        }
        // here she had best be QUIET
        DeadAir y = new DeadAir();
        y.seed(724);
        y.deal(2);
        y.tenths(30);
        Due.text(y, "off s");
        Due.due("quiet", isBestKind(y, 0, 20), 5);
    }

    /** The kind that is best when each is tried in turn; becomes tells it too. */
    private static int isBestKind(DeadAir x, int voice, int n) {
        int most = -1;
        int kind = -1;
        x.keep();
        for (int k = 0; k < 6; k++) {
            x.turns(voice, k);
            x.tenths(n);
            if (x.studio(0) > most) {
                most = x.studio(0);
                kind = k;
            }
            x.back();
        }
        Due.due("by trying", x.becomes(voice, n, 0), kind);
        Due.due("by trying", x.becomes(voice, n, 1), most);
        return kind;
    }

    private static void apart() {
        DeadAir x = new DeadAir();
        x.voice(0, 5, 60);
        x.voice(0, 5, 60);
        Due.due("none by then", x.apart(0, 1, 4), 0);
        Due.due("one", x.apart(0, 1, 5), 1);
        Due.due("either way", x.apart(1, 0, 5), 1);
        x.set(0, 1, 9);
        x.set(1, 1, 4);
        Due.due("she is first", x.apart(0, 1, 9), 0);
        DeadAir u = new DeadAir();
        u.voice(0, 60, 60);
        u.voice(0, 60, 60);
        Due.due("59", u.apart(0, 1, 59), 0);
        Due.due("60", u.apart(0, 1, 60), 1);
        int[][] bad = {{0, 0, 5}, {2, 0, 5}, {0, 2, 5}, {-1, 0, 5}, {0, -1, 5}, {0, 1, 0},
            {0, 1, 61}};
        for (int[] b : bad) {
            Due.due("apart bad", x.apart(b[0], b[1], b[2]), BAD);
        }
        // silence is so long already that they cross at once, whatever she waits
        DeadAir y = silenceOf(99, 5);
        y.turns(0, 0);
        y.turns(1, 0);
        Due.due("none", y.apart(0, 1, 1), NONE);
        // 20 is the last that is tried, and WAIT may be above 60 by it
        DeadAir z = silenceOf(78, 60);
        z.turns(0, 0);
        z.turns(1, 0);
        Due.due("twenty", z.apart(0, 1, 1), 20);
        DeadAir w = silenceOf(79, 60);
        w.turns(0, 0);
        w.turns(1, 0);
        Due.due("beyond", w.apart(0, 1, 1), NONE);
        // what has crossed before is no hindrance
        DeadAir v = new DeadAir();
        v.voice(0, 5, 60);
        v.voice(0, 5, 60);
        v.tenths(5);
        Due.due("crossed", v.studio(6), 1);
        Due.due("no more", v.apart(0, 1, 2), 0);
    }

    /** Two quiet voices behind n silent tenths. */
    private static DeadAir silenceOf(int n, int wait) {
        DeadAir x = new DeadAir();
        x.air(1, 0);
        x.voice(5, wait, 60);
        x.voice(5, wait, 60);
        x.tenths(n);
        return x;
    }

    private static void row(DeadAir x, int sheet, int... places) {
        for (int k = 0; k < places.length; k++) {
            x.mark(sheet, k, places[k]);
        }
    }

    private static void whose() {
        DeadAir x = new DeadAir();
        x.voice(5, 9, 9);
        x.voice(5, 9, 9);
        x.voice(5, 9, 9);
        x.speak(0, 5);
        x.speak(1, 3);
        x.sheet(0, 0, 4);
        row(x, 0, 3, 2, 1, 0);
        Due.due("hers", x.whose(0, 0), 1);
        Due.due("to the tenth", x.whose(0, 1), 0);
        row(x, 0, 5, 4, 4, -2);
        Due.due("hers", x.whose(0, 0), 0);
        Due.due("1 and 4", x.whose(0, 1), 5);
        row(x, 0, 0, 0, 0, 1);
        Due.due("hers who is silent", x.whose(0, 0), 2);
        Due.due("1", x.whose(0, 1), 1);
        x.sheet(1, 1, 24);
        for (int k = 0; k < 24; k++) {
            x.mark(1, k, NONE);
        }
        Due.due("no numbers: the least", x.whose(1, 0), 0);
        Due.due("0", x.whose(1, 1), 0);
        x.mark(1, 2, 2);
        Due.due("behind 2: 3, 1, 0", x.whose(1, 0), 0);
        Due.due("1 off, as the next", x.whose(1, 1), 1);
        x.mark(1, 2, 1);
        Due.due("behind 2: hers", x.whose(1, 0), 1);
        x.mark(1, 2, -99999);
        Due.due("far", x.whose(1, 1), 99999);
        x.sheet(2, 0, 0);
        Due.due("no places", x.whose(2, 0), 0);
        Due.due("0", x.whose(2, 1), 0);
    }

    private static void whoseBounds() {
        DeadAir x = new DeadAir();
        Due.due("bad sheet", x.whose(4, 0), BAD);
        Due.due("bad sheet", x.whose(-1, 0), BAD);
        Due.due("bad what", x.whose(0, 2), BAD);
        Due.due("bad what", x.whose(0, -1), BAD);
        Due.due("missing", x.whose(0, 0), DeadAir.NOTHING);
        x.sheet(0, 0, 2);
        Due.due("no voices", x.whose(0, 0), NONE);
        Due.due("no voices", x.whose(0, 1), NONE);
        x.sheet(0, -1, 0);
        x.voice(0, 1, 1);
        Due.due("missing again", x.whose(0, 1), DeadAir.NOTHING);
    }

    private static void fee() {
        DeadAir x = new DeadAir();
        x.voice(0, 5, 5);
        x.voice(0, 5, 5);
        x.tenths(6);
        Due.due("without a text", x.fee(), 6);
        Due.text(x, "fee s*10+c");
        Due.due("by the text", x.fee(), 61);
        Due.text(x, "fee 0-s");
        Due.due("by the newer", x.fee(), -6);
        Due.text(x, "off 5");
        Due.due("not by another key", x.fee(), -6);
    }

    private static void fine() {
        DeadAir x = new DeadAir();
        x.voice(0, 5, 5);
        x.voice(0, 5, 5);
        x.speak(1, 9);
        x.speak(1, 7);
        Due.due("without a text", x.fine(0), 0);
        Due.due("without a text", x.fine(1), 2);
        Due.text(x, "fine s*100+l");
        Due.due("by the text", x.fine(0), 0);
        Due.due("by the text", x.fine(1), 207);
        Due.due("no voice", x.fine(2), BAD);
        Due.due("no voice", x.fine(-1), BAD);
    }

    private static void onlyThought() {
        DeadAir x = new DeadAir();
        x.seed(5);
        x.deal(5);
        x.tenths(13);
        x.sheet(0, 0, 24);
        int[] was = Due.state(x);
        x.behind(100, 0);
        x.next(0);
        x.hole(200);
        x.patience(0, 60, 0);
        x.device(60, 0);
        x.filler(60, 0);
        x.becomes(1, 60, 0);
        x.apart(0, 1, 60);
        x.whose(0, 0);
        x.fee();
        x.fine(0);
        Due.same("state", Due.state(x), was);
    }
}
