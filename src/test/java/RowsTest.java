/** Promises 39 to 43: tell, check, keep, back, count. */
public final class RowsTest {
    private static final int BAD = DeadAir.BAD, NO = DeadAir.NO;

    private RowsTest() {
    }

    public static void main(String[] args) {
        tell();
        check();
        checkClearsAlways();
        checkByTheImage();
        checkAtTheLastTenths();
        keepAndBack();
        countersComeBack();
        whatAnImageLeavesOut();
        textsComeBack();
        count();
        Due.end();
    }

    private static void tell() {
        DeadAir x = new DeadAir();
        for (int i = 1; i <= 60; i++) {
            Due.due("tell " + i, x.tell(-i), i);
        }
        Due.due("full", x.tell(1), DeadAir.FULL);
        Due.due("60 wait", x.count(4), 60);
    }

    private static void tellAll(DeadAir x, int... row) {
        for (int v : row) {
            x.tell(v);
        }
    }

    private static int checked(DeadAir x, int n, int... row) {
        tellAll(x, row);
        return x.check(n);
    }

    private static void check() {
        DeadAir x = new DeadAir();
        Due.text(x, "off s");
        x.tenths(2);
        Due.due("listeners", x.studio(0), 997);
        x.keep();
        // SILENT and LISTENERS behind each: 3 994, 4 990, 5 985
        Due.due("three", checked(x, 3, 3, 994, 4, 990, 5, 985), 0);
        Due.due("one", checked(x, 1, 3, 994), 0);
        Due.due("first wrong", checked(x, 3, 2, 994, 4, 990, 5, 985), 1);
        Due.due("second wrong", checked(x, 3, 3, 995, 4, 990, 5, 985), 2);
        Due.due("third wrong", checked(x, 3, 3, 994, 1, 990, 5, 985), 3);
        Due.due("last wrong", checked(x, 3, 3, 994, 4, 990, 5, 986), 6);
        Due.due("one missing", checked(x, 3, 3, 994, 4, 990, 5), 6);
        Due.due("two missing", checked(x, 3, 3, 994, 4, 990), 5);
        Due.due("all missing", checked(x, 3), 1);
        Due.due("one too many", checked(x, 1, 3, 994, 4), 3);
        Due.due("two too many", checked(x, 1, 3, 994, 4, 990), 3);
        Due.due("wrong ahead of too many", checked(x, 1, 3, 993, 4, 990), 2);
        // thirty: 60 numbers
        int[] row = new int[60];
        int listeners = 997;
        for (int i = 0; i < 30; i++) {
            listeners -= 3 + i;
            row[2 * i] = 3 + i;
            row[2 * i + 1] = listeners;
        }
        Due.due("thirty", checked(x, 30, row), 0);
        Due.due("twenty-nine", checked(x, 29, row), 59);
        row[59]++;
        Due.due("the sixtieth", checked(x, 30, row), 60);
    }

    private static void checkClearsAlways() {
        DeadAir x = new DeadAir();
        tellAll(x, 1, 2, 3);
        Due.due("no image", x.check(1), NO);
        Due.due("none wait", x.count(4), 0);
        tellAll(x, 1, 2, 3);
        Due.due("bad ahead of no image", x.check(0), BAD);
        Due.due("none wait", x.count(4), 0);
        x.keep();
        tellAll(x, 1, 2, 3);
        Due.due("31", x.check(31), BAD);
        Due.due("none wait", x.count(4), 0);
        Due.due("-1", checked(x, -1, 9), BAD);
        Due.due("none wait", x.count(4), 0);
        Due.due("right", checked(x, 1, 1, 1000), 0);
        Due.due("none wait", x.count(4), 0);
        Due.due("wrong", checked(x, 1, 1, 999), 2);
        Due.due("none wait", x.count(4), 0);
    }

    private static void checkByTheImage() {
        DeadAir x = new DeadAir();
        Due.text(x, "off 10");
        x.keep();
        x.tenths(50);
        x.air(0, 77);
        Due.text(x, "off 1");
        x.voice(1, 1, 60);
        Due.due("by the image", checked(x, 2, 1, 990, 2, 980), 0);
        Due.due("nothing changes", x.studio(0), 77);
        Due.due("nothing changes", x.count(1), 50);
        x.back();
        Due.due("again", checked(x, 2, 1, 990, 2, 980), 0);
        // draws too are those of the image
        DeadAir y = new DeadAir();
        y.seed(4242);
        y.deal(5);
        y.tenths(7);
        y.keep();
        int[] row = new int[40];
        for (int i = 0; i < 20; i++) {
            row[2 * i] = y.behind(i + 1, 1);
            row[2 * i + 1] = y.behind(i + 1, 0);
        }
        y.tenths(33);
        y.seed(3);
        Due.due("twenty of five voices", checked(y, 20, row), 0);
    }

    private static void checkAtTheLastTenths() {
        DeadAir x = new DeadAir();
        x.air(1, 0);
        Due.text(x, "off 0");
        for (int i = 0; i < 99; i++) {
            x.tenths(100);
        }
        x.tenths(97);
        x.keep();
        Due.due("two are left", checked(x, 30, 9998, 1000, 9999, 1000), 0);
        Due.due("a third is too many", checked(x, 30, 9998, 1000, 9999, 1000, 10000, 1000), 5);
        Due.due("one of two is missing", checked(x, 2, 9998, 1000), 3);
        x.tenths(2);
        x.keep();
        Due.due("none are left", checked(x, 1), 0);
        Due.due("one is too many", checked(x, 1, 9999), 1);
    }

    private static void keepAndBack() {
        DeadAir x = new DeadAir();
        Due.due("no image", x.back(), NO);
        Due.due("an image of none", x.keep(), 0);
        x.seed(31);
        x.deal(4);
        x.set(2, 3, 11);
        x.air(0, 800);
        x.air(1, 30);
        x.air(2, 4);
        x.tenths(77);
        x.speak(1, 20);
        int[] was = Due.state(x);
        Due.due("an image of four", x.keep(), 4);
        for (int again = 0; again < 2; again++) {
            x.deal(1);
            x.tenths(100);
            x.turns(0, (x.told(0, 0) + 1) % 6);
            x.set(1, 1, 59);
            x.set(1, 2, 59);
            x.set(2, 3, 1);
            x.air(0, 3);
            x.air(1, 3);
            x.air(2, 3);
            x.tenths(20);
            x.seed(7 + again);
            Due.due("back", x.back(), 4);
            Due.same("back", Due.state(x), was);
            Due.due("fill", x.air(2, 4), 4);
        }
        DeadAir y = new DeadAir();
        y.voice(0, 1, 1);
        y.keep();
        y.voice(0, 2, 2);
        Due.due("a newer image", y.keep(), 2);
        Due.due("counts", y.back(), 2);
    }

    /** What only ever grows is smaller again, one by one. */
    private static void countersComeBack() {
        DeadAir x = new DeadAir();
        x.voice(5, 9, 9);
        x.voice(5, 9, 9);
        x.tenths(3);
        x.keep();
        int[] was = Due.state(x);
        x.tenths(9);
        x.air(1, 5);
        x.tenths(8);
        x.air(2, 3);
        x.tenths(6);
        x.turns(0, 0);
        x.turns(1, 0);
        x.air(2, 0);
        x.air(1, 110);
        x.tenths(100);
        x.turns(1, 5);
        x.tenths(100);
        for (int what = 1; what <= 9; what++) {
            Due.holds("grown: " + what, what == 1 || x.studio(what) > was[what]);
        }
        x.back();
        Due.same("back", Due.state(x), was);
    }

    private static void whatAnImageLeavesOut() {
        DeadAir x = new DeadAir();
        x.keep();
        x.sheet(0, 0, 3);
        x.mark(0, 1, 5);
        x.lay(0, 3, 9);
        x.tell(4);
        x.feed(1, 2, 3);
        x.back();
        Due.due("numbers wait", x.count(4), 1);
        Due.due("bytes stay", x.count(5), 12);
        Due.due("the slot holds", x.rest(0, 5), 4);
        x.lay(1, 2, 0);
        Due.due("the sheet stands", x.item(1, 1), 5);
    }

    private static void textsComeBack() {
        DeadAir x = new DeadAir();
        Due.text(x, "fee 1");
        Due.text(x, "off 2");
        x.keep();
        Due.text(x, "fee 3");
        Due.text(x, "fine 4");
        Due.due("newer", x.fee(), 3);
        x.back();
        Due.due("texts", x.count(3), 2);
        Due.due("fee", x.fee(), 1);
        Due.due("why fee", x.why(1), 0);
        Due.due("why off", x.why(0), 1);
        Due.due("why fine", x.why(2), DeadAir.NONE);
        Due.due("gone", x.textTold(2, 0), BAD);
        Due.due("told anew", Due.text(x, "fine 5+6"), 2);
        Due.due("its key", x.textTold(2, 0), 2);
        Due.due("its numbers", x.textTold(2, 1), 2);
        x.back();
        Due.due("again", x.count(3), 2);
        Due.due("fee again", x.fee(), 1);
    }

    private static void count() {
        DeadAir x = new DeadAir();
        x.voice(0, 9, 9);
        x.tenths(3);
        x.air(1, 44);
        Due.text(x, "off 1");
        x.tell(5);
        x.tell(5);
        x.feed(0, 0, 0);
        x.seed(-9);
        int[] due = {1, 3, 44, 1, 2, 12, -9};
        for (int what = 0; what < due.length; what++) {
            Due.due("count " + what, x.count(what), due[what]);
        }
        Due.due("count -1", x.count(-1), BAD);
        Due.due("count 7", x.count(7), BAD);
    }
}
