import java.util.function.IntUnaryOperator;

/** Rows, images and promises 39 to 43 at their bounds: a test for each sentence that names one. */
public final class BoundsRowsTest {
    private static final int BAD = DeadAir.BAD, NO = DeadAir.NO, FULL = DeadAir.FULL;

    private BoundsRowsTest() {
    }

    public static void main(String[] args) {
        tellHowMany();
        tellFull();
        tellAnyNumber();
        checkBounds();
        checkNo();
        checkNoneWaitThen();
        checkFirstThatIsNot();
        checkMissing();
        checkOneTooMany();
        checkOfThirty();
        checkFewerAtTheLastTenth();
        checkByTheImage();
        checkChangesNothing();
        keepHowMany();
        keepTheNewest();
        backNo();
        backHowMany();
        backAgainAndAgain();
        imageKeepsAllBut();
        imageKeepsTexts();
        imageOfANewObject();
        countBounds();
        countAtTheirEnds();
        Due.end();
    }

    private static int checked(DeadAir x, int n, int... row) {
        for (int v : row) {
            x.tell(v);
        }
        return x.check(n);
    }

    /** Promise 39: "One more number waits: how many." */
    private static void tellHowMany() {
        DeadAir x = new DeadAir();
        for (int i = 1; i <= 60; i++) {
            Due.due("how many", x.tell(0), i);
            Due.due("count", x.count(4), i);
        }
    }

    /** Promise 39: "FULL: 60 wait." */
    private static void tellFull() {
        Bounds.Script sixty = x -> {
            x.keep();
            for (int i = 1; i <= 30; i++) {
                x.tell(i);
                x.tell(x.behind(i, 0));
            }
        };
        Bounds.unchanged("a 61st", sixty, x -> x.tell(61), FULL);
        DeadAir x = Bounds.made(sixty);
        Due.due("FULL", x.tell(61), FULL);
        Due.due("FULL again", x.tell(61), FULL);
        Due.due("60 wait", x.count(4), 60);
        Due.due("they are as they were", x.check(30), 0);
        Due.due("room again", x.tell(1), 1);
    }

    private static void tellAnyNumber() {
        DeadAir x = new DeadAir();
        int[] all = {Integer.MIN_VALUE, Integer.MAX_VALUE, BAD, DeadAir.NONE, FULL, 0, -1};
        for (int i = 0; i < all.length; i++) {
            Due.due("any", x.tell(all[i]), i + 1);
        }
    }

    /** Promise 40: "n (1 .. 30 ..) .. BAD". */
    private static void checkBounds() {
        Bounds.Script kept = x -> x.keep();
        Bounds.range("check, none wait", kept, (x, v) -> x.check(v), 1, 30, 1);
        Bounds.range("check, no IMAGE", Bounds.BARE, (x, v) -> x.check(v), 1, 30, NO);
        DeadAir x = Bounds.made(kept);
        Due.due("1", checked(x, 1, 1, 1000), 0);
        Due.due("31", checked(x, 31, 1, 1000), BAD);
        Due.due("0", checked(x, 0, 1, 1000), BAD);
    }

    /** Promise 40: "BAD; NO: there is no IMAGE." */
    private static void checkNo() {
        DeadAir x = new DeadAir();
        Due.due("NO", checked(x, 1, 1, 1000), NO);
        Due.due("BAD stands first", checked(x, 0, 1, 1000), BAD);
        Due.due("BAD stands first", checked(x, 31, 1, 1000), BAD);
        x.keep();
        Due.due("there is one", checked(x, 1, 1, 1000), 0);
    }

    /** Promise 40: "(none do then, whatever is answered)". */
    private static void checkNoneWaitThen() {
        int[] asked = {0, 31, 1, 1, 2, -1};
        int[][] rows = {{1, 1000}, {1, 1000}, {1, 1000}, {1, 999}, {1, 1000}, {7}};
        int[] due = {BAD, BAD, 0, 2, 3, BAD};
        for (int i = 0; i < asked.length; i++) {
            DeadAir x = new DeadAir();
            x.keep();
            Due.due("answered", checked(x, asked[i], rows[i]), due[i]);
            Due.due("none wait", x.count(4), 0);
            Due.due("the next is the first", checked(x, 1, 1, 1000), 0);
            DeadAir y = new DeadAir();
            Due.due("without an IMAGE", checked(y, asked[i], rows[i]), due[i] == BAD ? BAD : NO);
            Due.due("none wait", y.count(4), 0);
        }
        DeadAir z = new DeadAir();
        for (int i = 0; i < 60; i++) {
            z.tell(i);
        }
        z.check(0);
        Due.due("none of 60 wait", z.count(4), 0);
        Due.due("room again", z.tell(1), 1);
    }

    /** Each of the numbers due behind n TENTHS of a new object, whose off is s. */
    private static int[] dueRow(int n) {
        int[] row = new int[2 * n];
        int listeners = 1000;
        for (int i = 0; i < n; i++) {
            listeners = Math.max(0, listeners - (i + 1));
            row[2 * i] = i + 1;
            row[2 * i + 1] = listeners;
        }
        return row;
    }

    private static DeadAir kept() {
        DeadAir x = new DeadAir();
        Due.text(x, "off s");
        x.keep();
        return x;
    }

    private static int[] with(int[] row, int at, IntUnaryOperator change) {
        int[] other = row.clone();
        other[at] = change.applyAsInt(other[at]);
        return other;
    }

    private static int[] cut(int[] row, int many) {
        int[] other = new int[many];
        System.arraycopy(row, 0, other, 0, Math.min(many, row.length));
        return other;
    }

    /** Promise 40: "else 1 and how many stand right ahead of the first that is not". */
    private static void checkFirstThatIsNot() {
        DeadAir x = kept();
        int[] row = dueRow(5);
        Due.due("all are", checked(x, 5, row), 0);
        for (int at = 0; at < 10; at++) {
            Due.due("one more at " + at, checked(x, 5, with(row, at, v -> v + 1)), 1 + at);
            Due.due("one less at " + at, checked(x, 5, with(row, at, v -> v - 1)), 1 + at);
        }
        DeadAir y = kept();
        int[] two = with(with(row, 3, v -> v + 1), 7, v -> v + 1);
        Due.due("the first of two", checked(y, 5, two), 4);
        Due.due("wrapped far away", checked(y, 5, with(row, 9, v -> v + 65536)), 10);
    }

    /** Promise 40: "(or is missing ..)". */
    private static void checkMissing() {
        DeadAir x = kept();
        int[] row = dueRow(5);
        for (int many = 0; many < 10; many++) {
            Due.due("only " + many, checked(x, 5, cut(row, many)), 1 + many);
        }
        Due.due("a wrong one ahead of it", checked(x, 5, with(cut(row, 6), 2, v -> v + 1)), 3);
    }

    /** Promise 40: "(.. or one too many)". */
    private static void checkOneTooMany() {
        DeadAir x = kept();
        int[] row = dueRow(30);
        for (int n = 1; n <= 4; n++) {
            Due.due("one", checked(x, n, cut(row, 2 * n + 1)), 2 * n + 1);
            Due.due("two", checked(x, n, cut(row, 2 * n + 2)), 2 * n + 1);
        }
        Due.due("58 too many", checked(x, 1, row), 3);
        Due.due("a wrong one ahead of it", checked(x, 1, with(row, 1, v -> v + 1)), 2);
    }

    private static void checkOfThirty() {
        DeadAir x = kept();
        int[] row = dueRow(30);
        Due.due("60 numbers", checked(x, 30, row), 0);
        Due.due("the 60th", checked(x, 30, with(row, 59, v -> v + 1)), 60);
        Due.due("59", checked(x, 30, cut(row, 59)), 60);
        Due.due("two too many", checked(x, 29, row), 59);
    }

    /** Promise 40: "(.. fewer, if THE TENTH would be above 9999)". */
    private static void checkFewerAtTheLastTenth() {
        for (int left = 0; left <= 3; left++) {
            DeadAir x = new DeadAir();
            x.air(1, 0);
            Due.text(x, "off 0");
            Bounds.tenths(x, 9999 - left);
            x.keep();
            int[] row = new int[8];
            for (int i = 0; i < 4; i++) {
                row[2 * i] = 10000 - left + i;
                row[2 * i + 1] = 1000;
            }
            Due.due(left + " left: just so", checked(x, 30, cut(row, 2 * left)), 0);
            Due.due("n more than there are", checked(x, left + 1, cut(row, 2 * left)), 0);
            Due.due("one too many", checked(x, 30, cut(row, 2 * left + 1)), 2 * left + 1);
            Due.due("two too many", checked(x, 30, cut(row, 2 * left + 2)), 2 * left + 1);
            if (left > 0) {
                Due.due("one missing", checked(x, 30, cut(row, 2 * left - 1)), 2 * left);
                Due.due("as many as there are", checked(x, left, cut(row, 2 * left)), 0);
            }
        }
        // what counts is THE TENTH of the image, not the one that is now
        DeadAir y = new DeadAir();
        y.keep();
        Bounds.tenths(y, 9999);
        Due.due("of the image", checked(y, 2, 1, 1000, 2, 1000), 0);
    }

    /** "THE TENTHS TOLD: of n TENTHS .. by THE IMAGE". */
    private static void checkByTheImage() {
        DeadAir x = Bounds.made(Bounds.CROWD);
        x.check(1);
        x.keep();
        int[] row = new int[60];
        for (int i = 0; i < 30; i++) {
            row[2 * i] = x.behind(i + 1, 1);
            row[2 * i + 1] = x.behind(i + 1, 0);
        }
        x.tenths(50);
        x.seed(9);
        x.air(0, 5);
        Due.text(x, "off 77");
        Due.due("by the image", checked(x, 30, row), 0);
        x.keep();
        Due.due("by the newer one", checked(x, 30, row), 1);
    }

    /** But for the numbers that wait, nothing changes. */
    private static void checkChangesNothing() {
        int[] asked = {0, 31, 1, 2, 3, 30};
        int[] due = {BAD, BAD, 3, 0, 5, 5};
        for (int i = 0; i < asked.length; i++) {
            DeadAir x = Bounds.made(Bounds.CROWD);
            Due.due("check(" + asked[i] + ")", x.check(asked[i]), due[i]);
            DeadAir asIf = Bounds.made(Bounds.CROWD);
            asIf.check(i == 0 ? 2 : 0);
            Bounds.same("check(" + asked[i] + ")", x, asIf);
        }
    }

    /** Promise 41: "AN IMAGE is kept: how many VOICES." */
    private static void keepHowMany() {
        DeadAir x = new DeadAir();
        for (int many = 0; many <= 5; many++) {
            Due.due("how many", x.keep(), many);
            Due.due("how many", x.back(), many);
            x.voice(5, 9, 9);
        }
    }

    private static void keepTheNewest() {
        DeadAir x = new DeadAir();
        x.voice(0, 9, 9);
        x.keep();
        x.voice(0, 9, 9);
        x.keep();
        x.voice(0, 9, 9);
        Due.due("the newest", x.back(), 2);
        Due.due("the newest still", x.back(), 2);
    }

    /** Promise 42: "NO: there is none." */
    private static void backNo() {
        Bounds.unchanged("NO", Bounds.BARE, x -> x.back(), NO);
        Bounds.unchanged("NO", x -> {
            x.deal(5);
            x.tenths(50);
            Due.text(x, "fee 7");
            x.sheet(0, 0, 5);
            x.tell(4);
        }, x -> x.back(), NO);
    }

    private static void backHowMany() {
        DeadAir x = Bounds.made(Bounds.CROWD);
        Due.due("five", x.back(), 5);
        DeadAir y = new DeadAir();
        y.keep();
        y.deal(5);
        Due.due("none", y.back(), 0);
        Due.due("none", y.count(0), 0);
        Due.due("none is told", y.told(0, 0), BAD);
    }

    /** "all can become as it is (again and again)". */
    private static void backAgainAndAgain() {
        DeadAir x = new DeadAir();
        x.deal(4);
        x.tenths(40);
        x.keep();
        int[] was = Due.state(x);
        for (int again = 0; again < 2; again++) {
            x.voice(1, 1, 1);
            x.tenths(100);
            for (int voice = 0; voice < 4; voice++) {
                x.turns(voice, 5);
            }
            x.seed(again);
            Due.due("four", x.back(), 4);
            Due.same("again", Due.state(x), was);
        }
        Bounds.unchanged("right behind keep", y -> {
            Bounds.CROWD.on(y);
            y.keep();
        }, y -> y.back(), 5);
    }

    /** "AN IMAGE keeps all but SHEETS, SLOTS, numbers that wait, THE TAPE". */
    private static void imageKeepsAllBut() {
        DeadAir x = Bounds.made(Bounds.CROWD);
        x.keep();
        x.sheet(0, 1, 1);
        x.sheet(1, -1, 0);
        x.lay(0, 0, 0);
        x.lay(2, 3, 99);
        x.tell(5);
        x.feed(0, 0, 0);
        x.back();
        Due.due("numbers that wait", x.count(4), 5);
        Due.due("THE TAPE", x.count(5), 22);
        Due.due("a SLOT with nothing", x.ask(0, 0), DeadAir.NOTHING);
        Due.due("a SLOT with a number", x.rest(2, 100), 99);
        Due.due("a SHEET that is MISSING", x.reads(1), DeadAir.NOTHING);
        Due.due("a SHEET of floats", x.mark(0, 0, DeadAir.NONE), 1);
        Due.due("the IMAGE itself", x.back(), 5);
        // and when an image is kept, they stay as they are
        Bounds.unchanged("keep, where the IMAGE is as all is", y -> {
            Bounds.CROWD.on(y);
            y.keep();
        }, y -> y.keep(), 5);
    }

    private static void imageKeepsTexts() {
        DeadAir x = new DeadAir();
        for (int i = 0; i < 7; i++) {
            Due.text(x, "fee " + i);
        }
        x.keep();
        for (int again = 0; again < 2; again++) {
            for (int i = 7; i < 14; i++) {
                Due.due("its number", Due.text(x, (i % 2 == 0 ? "off " : "fine ") + i), i);
            }
            Due.due("full", Due.text(x, "fee 99"), FULL);
            Due.due("off", x.why(0), 12);
            x.back();
            Due.due("TEXTS", x.count(3), 7);
            Due.due("fee", x.fee(), 6);
            Due.due("off", x.why(0), DeadAir.NONE);
            Due.due("fine", x.why(2), DeadAir.NONE);
        }
        // check goes by the image's TEXTS, whatever was told behind it
        Due.text(x, "off 500");
        Due.due("without a TEXT", checked(x, 1, 1, 1000), 0);
    }

    private static void imageOfANewObject() {
        DeadAir x = new DeadAir();
        x.keep();
        x.air(1, 5);
        x.tenths(20);
        x.air(2, 3);
        x.tenths(20);
        x.air(1, 100);
        x.air(2, 0);
        Bounds.voices(x, 2, 0, 9, 9);
        x.tenths(9);
        x.turns(0, 5);
        x.tenths(60);
        x.hush(1);
        x.turns(1, 5);
        x.tenths(5);
        for (int what = 1; what <= 9; what++) {
            Due.holds("not as at first: " + what, x.studio(what) > 0);
        }
        x.back();
        DeadAir asIf = new DeadAir();
        asIf.keep();
        Bounds.same("as at first", x, asIf);
    }

    /** Promise 43: "0 how many VOICES .. 6 z. BAD." */
    private static void countBounds() {
        Bounds.range("count, what", Bounds.BARE, (x, v) -> x.count(v), 0, 6, 0, 1);
        Bounds.range("count, what", Bounds.CROWD, (x, v) -> x.count(v), 0, 6, 5,
            Bounds.made(Bounds.CROWD).count(6));
        Bounds.unchanged("count changes nothing", Bounds.CROWD, x -> x.count(1), 77);
    }

    private static void countAtTheirEnds() {
        DeadAir x = new DeadAir();
        Bounds.voices(x, 5, 5, 1, 1);
        Bounds.tenths(x, 9999);
        x.air(1, 200);
        for (int i = 0; i < 14; i++) {
            Due.text(x, "fee 1");
        }
        for (int i = 0; i < 60; i++) {
            x.tell(i);
        }
        for (int i = 0; i < 8; i++) {
            x.feed(i, i, i);
        }
        x.seed(Integer.MIN_VALUE);
        int[] most = {5, 9999, 200, 14, 60, 96, Integer.MIN_VALUE};
        for (int what = 0; what <= 6; what++) {
            Due.due("at its end: " + what, x.count(what), most[what]);
        }
    }
}
