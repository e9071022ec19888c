/** "4 TEXTS" and promises 25 to 29 at their bounds: a test for each sentence that names one. */
public final class BoundsTextsTest {
    private static final int BAD = DeadAir.BAD, FULL = DeadAir.FULL, NONE = DeadAir.NONE;

    private BoundsTextsTest() {
    }

    public static void main(String[] args) {
        tapeOfNinetySixBytes();
        usedUpWhateverIsAnswered();
        keysAndNothingElse();
        orAndTestSumTerm();
        oneTestAtMost();
        numberOfOneToFourDigits();
        namesOfOneLetter();
        namesByKeys();
        lettersAndDigitsAtTheirEnds();
        anyOtherByteIsASign();
        blanksMayStand();
        blankIsByte32Alone();
        wordBehindAWordNeedsABlank();
        faultIsTheFirstByte();
        theEndTooSoon();
        ninthBracket();
        ninthNot();
        eachByItself();
        intsWrap();
        divisionCutsTowardsZero();
        divisionByZero();
        testsGiveOneOrZero();
        whatIsNotZeroIsTrue();
        textThatWasToldLast();
        theFirstTextCounts();
        nothingLivesOn();
        feedTwelveBytes();
        feedFull();
        trimBounds();
        trimKeepsTheFirst();
        textNumbered();
        textFull();
        textFaultAheadOfFull();
        faultChangesNothing();
        textToldBounds();
        textToldCounts();
        whyBounds();
        whyNone();
        Due.end();
    }

    private static void good(String text) {
        DeadAir x = new DeadAir();
        Due.due("good: '" + text + "'", Due.text(x, text), 0);
    }

    private static void fault(String text, int place) {
        DeadAir x = new DeadAir();
        Due.due("fault of '" + text + "'", Due.text(x, text), -100 - place);
        Due.due("no TEXT by it", x.count(3), 0);
    }

    private static void gives(String e, int due) {
        DeadAir x = new DeadAir();
        Due.due("told: " + e, Due.text(x, "fee " + e), 0);
        Due.due("gives: " + e, x.fee(), due);
    }

    private static String times(String s, int n) {
        return s.repeat(n);
    }

    /** "THE TAPE (96 bytes at most ..)". */
    private static void tapeOfNinetySixBytes() {
        String text = "fee 1" + times("+1", 45);
        good(text);
        Due.due("95 bytes", text.length(), 95);
        gives("1" + times("+1", 45), 46);
        gives("11" + times("+1", 45), 56);
        good("fee " + times(" ", 91) + "7");
        good("fee 7" + times(" ", 91));
        good(times(" ", 91) + "fee 7");
        fault("fee " + times(" ", 92), 96);
        fault(times(" ", 96), 96);
        fault("fee 7" + times(" ", 90) + "7", 95);
        fault(text + "+", 96);
        gives("!1" + times("+!1", 29) + "+9", 9);
        good("fee " + times("!", 8) + times("(", 8) + "1" + times(")", 8) + times("+1", 33) + " ");
    }

    /** "an act that reads it uses it up, whatever it answers". */
    private static void usedUpWhateverIsAnswered() {
        DeadAir x = new DeadAir();
        Due.due("a TEXT", Due.text(x, "fee 1"), 0);
        Due.due("used up", x.count(5), 0);
        Due.due("a FAULT", Due.text(x, "fee"), -103);
        Due.due("used up", x.count(5), 0);
        for (int i = 1; i < 14; i++) {
            Due.text(x, "fee 1");
        }
        Due.due("FULL", Due.text(x, "fee 1"), FULL);
        Due.due("used up", x.count(5), 0);
        Due.due("nothing is read again", x.text(), -100);
        Due.due("still nothing", x.count(5), 0);
    }

    /** "KEY E. KEY: off | fee | fine." */
    private static void keysAndNothingElse() {
        good("off 1");
        good("fee 1");
        good("fine 1");
        String[] none = {"of 1", "offf 1", "fe 1", "feee 1", "fin 1", "finee 1", "f 1", "o 1", "ffo 1",
            "oef 1", "s 1", "1 1", "+ 1", "( 1", "Off 1", "ofg 1", "fef 1", "finf 1", "pff 1", "gee 1"};
        for (String text : none) {
            fault(text, 0);
        }
        fault("off off 1", 4);
        fault("off 1 off", 6);
    }

    /** "E, the loosest first": each sign between two of the next tighter ones. */
    private static void orAndTestSumTerm() {
        gives("2|0&0", 1);
        gives("0&0|2", 1);
        gives("1&2=2", 1);
        gives("2=2&3", 1);
        gives("3=1+2", 1);
        gives("1+2=3", 1);
        gives("1+2*3", 7);
        gives("2*3+1", 7);
        gives("9-2-3", 4);
        gives("9-2+3", 10);
        gives("99/5/2", 9);
        gives("7/2*2", 6);
        gives("7*2/4", 3);
        gives("!0*7", 7);
        gives("7*!0", 7);
        gives("!(0*7)", 1);
        gives("(1+2)*3", 9);
        gives("2*(1+2)", 6);
    }

    /** "TEST: SUM [ (< | = | >) SUM ]": one at most. */
    private static void oneTestAtMost() {
        String[] signs = {"<", "=", ">"};
        for (String one : signs) {
            good("fee s" + one + "c");
            good("fee s" + one + "(s" + one + "c)");
            good("fee (s" + one + "c)" + one + "s");
            fault("fee " + one + "s", 4);
            fault("fee s" + one, 6);
            for (String other : signs) {
                fault("fee s" + one + "c" + other + "s", 7);
                fault("fee s" + one + other + "c", 6);
                fault("fee 1|s" + one + "c+1" + other + "s", 11);
                good("fee s" + one + "c&s" + other + "c");
                good("fee s" + one + "c|s" + other + "c");
            }
        }
    }

    /** "NUMBER (1 to 4 digits)"; FAULT: "a NUMBER of more than 4 digits". */
    private static void numberOfOneToFourDigits() {
        gives("0", 0);
        gives("9", 9);
        gives("9999", 9999);
        gives("0000", 0);
        gives("0009", 9);
        gives("1000", 1000);
        fault("fee 10000", 4);
        fault("fee 00000", 4);
        fault("fee 1+00001", 6);
        fault("fee (12345", 5);
        fault("fee !  12345", 7);
        fault("fee 9999999999999", 4);
    }

    /** "NAMES, each one letter". */
    private static void namesOfOneLetter() {
        good("fee s");
        good("fee c");
        fault("fee ss", 4);
        fault("fee sc", 4);
        fault("fee cs", 4);
        fault("fee 1+ss", 6);
    }

    /** "of off s .., l .., h ..; of fee s .., c ..; of fine s .., l ..". */
    private static void namesByKeys() {
        String[] keys = {"off", "fee", "fine"};
        String[] names = {"slh", "sc", "sl"};
        for (int key = 0; key < 3; key++) {
            for (char c = 'a'; c <= 'z'; c++) {
                String text = keys[key] + " " + c;
                if (names[key].indexOf(c) >= 0) {
                    good(text);
                } else {
                    fault(text, keys[key].length() + 1);
                }
            }
        }
    }

    /** "A word is a row of letters a .. z, or of digits, as long as it goes". */
    private static void lettersAndDigitsAtTheirEnds() {
        fault("fee sa", 4);
        fault("fee sz", 4);
        fault("fee s`", 5);
        fault("fee s{", 5);
        fault("fee 1/", 6);
        fault("fee 1:", 5);
        fault("fee sS", 5);
        fault("fee S", 4);
        fault("feeA1", 3);
        good("fee 1/1");
        gives("0123+4567+89", 4779);
    }

    /** "any other byte is a sign by itself". */
    private static void anyOtherByteIsASign() {
        String behind = "|&<=>+-*/";
        for (int b = 0; b < 256; b++) {
            char c = (char) b;
            boolean isWord = c >= 'a' && c <= 'z' || c >= '0' && c <= '9';
            if (c == ' ') {
                continue;
            }
            // behind a PIECE, with another PIECE behind it
            if (behind.indexOf(c) >= 0) {
                good("fee s" + c + "s");
                good("fee (s)" + c + "(s)");
            } else {
                fault("fee (s)" + c + "(s)", 7);
            }
            // where a PIECE must stand
            if (!isWord && c != '!' && c != '(') {
                fault("fee " + c + c + "s", 4);
            }
        }
        fault("fee s++s", 6);
        fault("fee s+*s", 6);
        fault("fee s&&s", 6);
    }

    /** "Between words and signs, and at the ends, there may be blanks". */
    private static void blanksMayStand() {
        good("fee(s)");
        good("fee!s");
        good(" fee s ");
        good("  fee  !  (  s  +  12  )  *  c  ");
        good("fee !!s*(c)");
        gives("  1  +  2  ", 3);
        fault("fee 1 2", 6);
        fault("f ee 1", 0);
        fault("fee ! ! )", 8);
    }

    /** "blanks (byte 32)". */
    private static void blankIsByte32Alone() {
        for (int b : new int[] {0, 9, 10, 11, 13, 31, 33, 127, 160, 255}) {
            if (b == '!') {
                good("fee" + (char) b + "s");
            } else {
                fault("fee" + (char) b + "s", 3);
            }
            fault("fee s" + (char) b, 5);
        }
    }

    /** "a word right behind another one needs one"; FAULT: "a word that needs a blank ahead of it". */
    private static void wordBehindAWordNeedsABlank() {
        fault("fee1", 3);
        fault("fee12345", 3);
        fault("off9+1", 3);
        fault("fine0", 4);
        fault("fee s1", 5);
        fault("fee 1s", 5);
        fault("fee (1s)", 6);
        fault("1fee 1", 0);
        good("fee 1");
    }

    /** "the first byte of the first word or sign with which no TEXT goes on". */
    private static void faultIsTheFirstByte() {
        fault("fee 1+foo+bar", 6);
        fault("fee 1 +  foo", 9);
        fault("xyz abc", 0);
        fault("   xyz", 3);
        fault("fee 12 345", 7);
        fault("fee )", 4);
        fault("fee 1)", 5);
        fault("fee (1))", 7);
        fault("fee ()", 5);
        fault("fee !+1", 5);
        fault("fee 1!", 5);
        fault("fee 1(", 5);
        fault("fee 1 (", 6);
        fault("fee (1)(1)", 7);
        fault("fee -1", 4);
    }

    /** "the end (the place behind the last byte), if it comes too soon". */
    private static void theEndTooSoon() {
        fault("", 0);
        fault(" ", 1);
        fault("fee", 3);
        fault("fee ", 4);
        fault("fee!", 4);
        fault("fee (", 5);
        fault("fee (1", 6);
        fault("fee (1 ", 7);
        fault("fee ((1)", 8);
        fault("fee (1+", 7);
        for (char c : "|&<=>+-*/".toCharArray()) {
            fault("fee 1" + c, 6);
            fault("fee 1" + c + "  ", 8);
        }
    }

    /** "the ninth ( that would be open within others". */
    private static void ninthBracket() {
        good("fee " + times("(", 8) + "s" + times(")", 8));
        fault("fee " + times("(", 9) + "s" + times(")", 9), 12);
        fault("fee " + times("(", 9), 12);
        fault("fee " + times("(", 8), 12);
        fault("fee " + times("( ", 8) + " (", 21);
        // what has been closed is open no more
        good("fee " + times("(", 8) + "s" + times(")", 8) + "+" + times("(", 8) + "s" + times(")", 8));
        good("fee " + times("(", 8) + "s)+(s" + times(")", 8));
        fault("fee " + times("(", 8) + "s)+((s", 16);
        good("fee " + times("(", 7) + "(s)+(s)*(s)" + times(")", 7));
        good("fee (s)" + times("+(s)", 20));
    }

    /** "the ninth ! likewise". */
    private static void ninthNot() {
        good("fee " + times("!", 8) + "s");
        fault("fee " + times("!", 9) + "s", 12);
        fault("fee " + times("!", 9), 12);
        fault("fee " + times("!", 8), 12);
        fault("fee " + times("! ", 8) + " !s", 21);
        // with its PIECE it is over
        good("fee " + times("!", 8) + "s+" + times("!", 8) + "s");
        good("fee " + times("!s*", 25) + "s");
        good("fee " + times("!(", 8) + "s" + times(")", 8));
        fault("fee " + times("!(", 8) + "!s", 20);
        fault("fee " + times("!", 8) + "(s+!s)", 15);
        good("fee " + times("!", 7) + "(s+!s+!s)+!s");
        good("fee " + times("!", 8) + "(s)+!s");
    }

    /** "each by itself". */
    private static void eachByItself() {
        good("fee " + times("!", 8) + times("(", 8) + "s" + times(")", 8));
        good("fee " + times("(", 8) + times("!", 8) + "s" + times(")", 8));
        good("fee " + times("(!", 8) + "s" + times(")", 8));
        fault("fee " + times("!", 8) + times("(", 9), 20);
        fault("fee " + times("(", 8) + times("!", 9), 20);
        fault("fee " + times("(!", 8) + "(", 20);
        fault("fee " + times("(!", 8) + "!", 20);
    }

    /** "Ints wrap". */
    private static void intsWrap() {
        gives("8192*8192*32", Integer.MIN_VALUE);
        gives("8192*8192*32-1", Integer.MAX_VALUE);
        gives("8192*8192*32-1+1", Integer.MIN_VALUE);
        gives("0-8192*8192*32", Integer.MIN_VALUE);
        gives("0-8192*8192*32-1", Integer.MAX_VALUE);
        gives("8192*8192*64", 0);
        gives("9999*9999*9999", (int) (9999L * 9999 * 9999));
        gives("8192*8192*32/(0-1)", Integer.MIN_VALUE);
        gives("8192*8192*32<8192*8192*32-1", 1);
        gives("8192*8192*32-1>0", 1);
    }

    /** "/ cuts towards 0". */
    private static void divisionCutsTowardsZero() {
        gives("7/2", 3);
        gives("(0-7)/2", -3);
        gives("7/(0-2)", -3);
        gives("(0-7)/(0-2)", 3);
        gives("1/2", 0);
        gives("(0-1)/2", 0);
        gives("9999/9999", 1);
        gives("9998/9999", 0);
    }

    /** "/ is 0 by 0". */
    private static void divisionByZero() {
        gives("7/0", 0);
        gives("0/0", 0);
        gives("(0-7)/0", 0);
        gives("8192*8192*32/0", 0);
        gives("7/(3-3)+5", 5);
        gives("7/0/0", 0);
        gives("7/s", 0);
    }

    /** "tests, & | ! give 1 or 0". */
    private static void testsGiveOneOrZero() {
        gives("1<2", 1);
        gives("2<2", 0);
        gives("3<2", 0);
        gives("1=2", 0);
        gives("2=2", 1);
        gives("3=2", 0);
        gives("1>2", 0);
        gives("2>2", 0);
        gives("3>2", 1);
        gives("5&9", 1);
        gives("5|9", 1);
        gives("5&0", 0);
        gives("0&5", 0);
        gives("0|5", 1);
        gives("5|0", 1);
        gives("0|0", 0);
        gives("0&0", 0);
        gives("!0", 1);
        gives("!1", 0);
        gives("!9", 0);
        gives("!!9", 1);
    }

    /** "(what is not 0 is true ..)". */
    private static void whatIsNotZeroIsTrue() {
        gives("(0-1)&(0-9)", 1);
        gives("(0-1)|0", 1);
        gives("!(0-1)", 0);
        gives("2&4", 1);
        gives("8192*8192*32&1", 1);
        gives("8192*8192*64|0", 0);
    }

    /** "Of a KEY that TEXT counts that was told last." */
    private static void textThatWasToldLast() {
        DeadAir x = new DeadAir();
        for (int i = 0; i < 14; i++) {
            Due.text(x, "fee " + i);
            Due.due("the last", x.fee(), i);
            Due.due("the last", x.why(1), i);
        }
        Due.text(x, "fee 99");
        Due.due("one for which there is no room was not told", x.fee(), 13);
        Due.text(x, "fee 99+");
        Due.due("nor one with a FAULT", x.fee(), 13);
    }

    /** TEXT 0 counts as any other one does, for each KEY. */
    private static void theFirstTextCounts() {
        DeadAir x = new DeadAir();
        x.voice(5, 9, 9);
        Due.text(x, "fine 7");
        Due.due("fine", x.fine(0), 7);
        DeadAir y = new DeadAir();
        Due.text(y, "fee 7");
        Due.due("fee", y.fee(), 7);
        DeadAir z = new DeadAir();
        Due.text(z, "off 7");
        z.tenths(1);
        Due.due("off", z.studio(0), 993);
    }

    /** A TAPE is read as if none had been read before, wherever the last one ended. */
    private static void nothingLivesOn() {
        String[] before = {"fee", "fee 1+", "fee 1*(2", "fee " + times("(", 8), "fee " + times("!", 8),
            "fee !(1", "fee !1", "fee 12345", "fee zz", "fee 1<2<3", "off 9", "fine " + times("(", 8) + "1", ""};
        String[] then = {"fee 7", "fee 3+4", "fee " + times("(", 8) + "7" + times(")", 8), "fee 7*" + times("!", 8) + "5"};
        for (String first : before) {
            for (String second : then) {
                DeadAir x = new DeadAir();
                Due.text(x, first);
                int many = x.count(3);
                Due.due("'" + second + "' behind '" + first + "'", Due.text(x, second), many);
                Due.due("gives", x.fee(), 7);
            }
            DeadAir y = new DeadAir();
            Due.text(y, first);
            Due.due("a ) behind '" + first + "'", Due.text(y, "fee 1)"), -105);
            Due.text(y, first);
            Due.due("a KEY behind '" + first + "'", Due.text(y, "1"), -100);
            Due.text(y, first);
            Due.due("an end behind '" + first + "'", Due.text(y, "fee "), -104);
        }
    }

    /** Promise 25: "Twelve bytes come to THE TAPE, the highest of each number first: how many it has." */
    private static void feedTwelveBytes() {
        DeadAir x = new DeadAir();
        Due.due("twelve", x.feed(0x66656520, 0x312B3220, 0x2B34302D), 12);
        Due.due("24", x.feed(0x20392020, 0x20202020, 0x20202020), 24);
        Due.due("told", x.text(), 0);
        Due.due("1+2+40-9", x.fee(), 34);
        // numbers below 0 are bytes of 128 and more
        x.feed(0x66656520, 0x73FFFFFF, -1);
        Due.due("byte 255 at 5", x.text(), -105);
        x.feed(0x66656520, 0x7380, Integer.MIN_VALUE);
        Due.due("byte 0 at 4", x.text(), -104);
        x.feed(Integer.MIN_VALUE, 0, 0);
        Due.due("byte 128 at 0", x.text(), -100);
    }

    /** Promise 25: "FULL: it would have more than 96." */
    private static void feedFull() {
        DeadAir x = new DeadAir();
        for (int i = 1; i <= 8; i++) {
            Due.due("how many", x.feed(0x20202020, 0x20202020, 0x20202020), 12 * i);
        }
        Due.due("96", x.count(5), 96);
        Due.due("108", x.feed(0x20202020, 0x20202020, 0x20202020), FULL);
        Bounds.Script nearlyFull = y -> {
            Due.feed(y, "fee s*100+c" + times(" ", 73) + "+");
            Due.due("85", y.count(5), 85);
        };
        Bounds.unchanged("97", nearlyFull, y -> y.feed(0x37202020, 0x20202020, 0x20202020), FULL);
        DeadAir z = new DeadAir();
        Due.feed(z, "fee 1" + times(" ", 78) + "+");
        Due.due("84", z.count(5), 84);
        Due.due("96", z.feed(0x37202020, 0x20202020, 0x20202020), 96);
        Due.due("told", z.text(), 0);
        Due.due("the last twelve count", z.fee(), 8);
        Due.due("the tape is empty", z.feed(0, 0, 0), 12);
    }

    /** Promise 26: "THE TAPE keeps its first n bytes: n. BAD." */
    private static void trimBounds() {
        Bounds.range("trim of none", Bounds.BARE, (x, v) -> x.trim(v), 0, 0, 0);
        Bounds.range("trim of ten", Bounds.CROWD, (x, v) -> x.trim(v), 0, 10, 0, 10);
        Bounds.range("trim of 96", x -> Due.feed(x, "fee 1" + times("+1", 45) + " "),
            (x, v) -> x.trim(v), 0, 96, 0, 96);
        Bounds.unchanged("all are kept", Bounds.CROWD, x -> x.trim(10), 10);
    }

    private static void trimKeepsTheFirst() {
        DeadAir x = new DeadAir();
        Due.feed(x, "fee 1234");
        x.trim(7);
        Due.due("seven", x.count(5), 7);
        x.trim(6);
        Due.due("told", x.text(), 0);
        Due.due("the first six", x.fee(), 12);
        Due.feed(x, "fee 1234");
        x.trim(0);
        Due.due("none", x.count(5), 0);
        Due.due("the end too soon", x.text(), -100);
        Due.feed(x, "fee 99");
        x.trim(5);
        Due.due("behind those that are kept", x.feed(0x38202020, 0x20202020, 0x20202020), 17);
        x.text();
        Due.due("98", x.fee(), 98);
    }

    /** "TEXTS, 14 at most, numbered from 0"; promise 27: "its number". */
    private static void textNumbered() {
        DeadAir x = new DeadAir();
        String[] keys = {"off", "fee", "fine"};
        for (int i = 0; i < 14; i++) {
            Due.due("its number", Due.text(x, keys[i % 3] + " " + i), i);
            Due.due("so many", x.count(3), i + 1);
        }
        for (int i = 0; i < 14; i++) {
            Due.due("its KEY", x.textTold(i, 0), i % 3);
        }
    }

    private static void fourteen(DeadAir x) {
        x.voice(0, 9, 9);
        for (int i = 0; i < 14; i++) {
            Due.text(x, (i % 2 == 0 ? "fee " : "off ") + i);
        }
    }

    /** Promise 27: "FULL". */
    private static void textFull() {
        for (String key : new String[] {"off 1", "fee 1", "fine 1"}) {
            DeadAir x = Bounds.made(BoundsTextsTest::fourteen);
            Due.due("a fifteenth", Due.text(x, key), FULL);
            Bounds.same("a fifteenth", x, Bounds.made(BoundsTextsTest::fourteen));
        }
        // behind an image of fewer there is room again
        DeadAir y = new DeadAir();
        for (int i = 0; i < 13; i++) {
            Due.text(y, "fee 1");
        }
        y.keep();
        Due.due("the fourteenth", Due.text(y, "fee 2"), 13);
        Due.due("full", Due.text(y, "fee 3"), FULL);
        y.back();
        Due.due("the fourteenth again", Due.text(y, "fee 4"), 13);
        Due.due("it counts", y.fee(), 4);
    }

    /** Promise 27: "-100 less the place of its FAULT; FULL." */
    private static void textFaultAheadOfFull() {
        String[] faults = {"", "fee", "fee 1+", "xyz", "fee 1 2"};
        int[] places = {0, 3, 6, 0, 6};
        for (int i = 0; i < faults.length; i++) {
            DeadAir x = Bounds.made(BoundsTextsTest::fourteen);
            Due.due("FAULT of '" + faults[i] + "'", Due.text(x, faults[i]), -100 - places[i]);
            Bounds.same("FAULT of '" + faults[i] + "'", x, Bounds.made(BoundsTextsTest::fourteen));
        }
    }

    /** A FAULT uses the tape up, and changes nothing else. */
    private static void faultChangesNothing() {
        String[] faults = {"fee 9+", "off 9*(s", "fine !!!!!!!!!1", "off 1 2", "fee ((((((((("};
        for (String text : faults) {
            DeadAir x = Bounds.made(Bounds.CROWD);
            x.trim(0);
            Due.holds("a FAULT", Due.text(x, text) <= -100);
            DeadAir asIf = Bounds.made(Bounds.CROWD);
            asIf.trim(0);
            Bounds.same("FAULT of '" + text + "'", x, asIf);
        }
    }

    /** Promise 28: "Of a TEXT: what 0 KEY .., 1 how many NUMBERS and NAMES it has. BAD." */
    private static void textToldBounds() {
        Due.due("no TEXTS", new DeadAir().textTold(0, 0), BAD);
        Bounds.range("textTold, text of four", Bounds.CROWD, (x, v) -> x.textTold(v, 0), 0, 3, 0, 1);
        Bounds.range("textTold, text of fourteen", BoundsTextsTest::fourteen,
            (x, v) -> x.textTold(v, 0), 0, 13, 1, 0);
        Bounds.range("textTold, what", Bounds.CROWD, (x, v) -> x.textTold(0, v), 0, 1, 0, 6);
        DeadAir x = new DeadAir();
        Due.text(x, "fee 1");
        x.keep();
        Due.text(x, "off 1");
        Due.due("there", x.textTold(1, 0), 0);
        x.back();
        Due.due("there no more", x.textTold(1, 0), BAD);
    }

    private static void textToldCounts() {
        DeadAir x = new DeadAir();
        Due.text(x, "fee 1");
        Due.text(x, "fee s" + times("+1", 44) + "+ 1");
        Due.text(x, "off !!(s)*!l-(h)+0000");
        Due.due("one", x.textTold(0, 1), 1);
        Due.due("as many as there is room for", x.textTold(1, 1), 46);
        Due.due("no signs", x.textTold(2, 1), 4);
    }

    /** Promise 29: "The TEXT that counts for a KEY. BAD". */
    private static void whyBounds() {
        Bounds.range("why, key 0 .. 2", Bounds.CROWD, (x, v) -> x.why(v), 0, 2, 0, 2);
        Bounds.range("why, key 0 .. 2", Bounds.BARE, (x, v) -> x.why(v), 0, 2, NONE);
        DeadAir x = Bounds.made(BoundsTextsTest::fourteen);
        Due.due("off", x.why(0), 13);
        Due.due("fee", x.why(1), 12);
        Due.due("fine", x.why(2), NONE);
    }

    /** Promise 29: "NONE". */
    private static void whyNone() {
        for (int key = 0; key < 3; key++) {
            int asked = key;
            Bounds.unchanged("none", Bounds.BARE, x -> x.why(asked), NONE);
            DeadAir x = new DeadAir();
            x.keep();
            Due.text(x, new String[] {"off 1", "fee 1", "fine 1"}[key]);
            for (int other = 0; other < 3; other++) {
                Due.due("this one alone", x.why(other), other == key ? 0 : NONE);
            }
            x.back();
            Due.due("none again", x.why(key), NONE);
        }
    }
}
