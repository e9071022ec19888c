/** Promises 25 to 29, and what a text says: feed, trim, text, textTold, why. */
public final class TextsTest {
    private TextsTest() {
    }

    public static void main(String[] args) {
        feed();
        trim();
        keys();
        faultsOfKeys();
        faultsOfPieces();
        faultsOfSigns();
        faultsOfDepth();
        faultsAtTheEnd();
        oddBytes();
        blanks();
        worth();
        worthWrapped();
        usedUp();
        behindFaults();
        full();
        textTold();
        why();
        Due.end();
    }

    private static void feed() {
        DeadAir x = new DeadAir();
        for (int i = 1; i <= 8; i++) {
            Due.due("feed " + i, x.feed(0, -1, i), 12 * i);
        }
        Due.due("full", x.feed(0, 0, 0), DeadAir.FULL);
        Due.due("count", x.count(5), 96);
        x.trim(85);
        Due.due("one too many", x.feed(0, 0, 0), DeadAir.FULL);
        Due.due("nothing came", x.count(5), 85);
        x.trim(84);
        Due.due("room", x.feed(0, 0, 0), 96);
        // the highest byte of each number comes first
        DeadAir y = new DeadAir();
        y.feed('f' << 24 | 'e' << 16 | 'e' << 8 | ' ', '1' << 24 | '2' << 16 | '+' << 8 | '3',
            '0' << 24 | '*' << 16 | '2' << 8 | ' ');
        Due.due("text", y.text(), 0);
        Due.due("12+30*2", y.fee(), 72);
    }

    private static void trim() {
        DeadAir x = new DeadAir();
        Due.due("trim 0 of 0", x.trim(0), 0);
        Due.due("trim 1 of 0", x.trim(1), DeadAir.BAD);
        x.feed(0, 0, 0);
        Due.due("trim 13 of 12", x.trim(13), DeadAir.BAD);
        Due.due("trim -1", x.trim(-1), DeadAir.BAD);
        Due.due("trim 12", x.trim(12), 12);
        Due.due("trim 5", x.trim(5), 5);
        Due.due("count", x.count(5), 5);
        Due.due("trim 6", x.trim(6), DeadAir.BAD);
        // what is fed then stands right behind what was kept
        x.trim(0);
        x.feed(Due.word("fee ", 0), Due.word("77zz", 0), Due.word("zzzz", 0));
        x.trim(6);
        x.feed(Due.word("+1  ", 0), Due.word("    ", 0), Due.word("    ", 0));
        Due.due("text", x.text(), 0);
        Due.due("77+1", x.fee(), 78);
    }

    private static void keys() {
        DeadAir x = new DeadAir();
        Due.due("off", Due.text(x, "off s+l+h"), 0);
        Due.due("fee", Due.text(x, "fee s+c"), 1);
        Due.due("fine", Due.text(x, "fine s+l"), 2);
        Due.due("signs need no blank", Due.text(x, "off(s)"), 3);
        Due.due("signs need no blank", Due.text(x, "fine!s"), 4);
    }

    private static void fault(String text, int place) {
        DeadAir x = new DeadAir();
        Due.due("fault of '" + text + "'", Due.text(x, text), -100 - place);
        Due.due("no text by it", x.count(3), 0);
    }

    private static void good(String text) {
        DeadAir x = new DeadAir();
        Due.due("good: '" + text + "'", Due.text(x, text), 0);
    }

    private static void faultsOfKeys() {
        fault("offs", 0);
        fault("of s", 0);
        fault("OFF s", 0);
        fault("fines s", 0);
        fault("fin s", 0);
        fault("xff s", 0);
        fault("xee s", 0);
        fault("xine s", 0);
        fault("s", 0);
        fault("9", 0);
        fault("(off s)", 0);
        fault("  foo s", 2);
        fault("off off s", 4);
        fault("off fee", 4);
        // a word right behind another one needs a blank
        fault("off9", 3);
        fault("fee12345", 3);
        fault("fine1+2", 4);
        good("off 9");
        good("off  9");
    }

    private static void faultsOfPieces() {
        fault("off c", 4);
        fault("off z", 4);
        fault("off sl", 4);
        fault("off ss", 4);
        fault("fee l", 4);
        fault("fee h", 4);
        fault("fine h", 5);
        fault("fine c", 5);
        fault("fine s+l*c", 9);
        good("off 9999");
        good("off 0000");
        fault("off 00000", 4);
        fault("off 1+12345", 6);
        fault("off -1", 4);
        fault("off 1+-1", 6);
        fault("off *", 4);
        fault("off )", 4);
        fault("off ()", 5);
        fault("off !)", 5);
        fault("off !+s", 5);
        fault("off 1+", 6);
        fault("off 1 + + 1", 8);
        fault("off s&&l", 6);
        fault("off s<=l", 6);
        fault("off a", 4);
        good("off !s");
        good("off ! ! s");
        good("off 1+!2*3");
    }

    private static void faultsOfSigns() {
        fault("off s l", 6);
        fault("off 1 2", 6);
        fault("off 12s", 6);
        fault("off s1", 5);
        fault("off s(l)", 5);
        fault("off (s)(l)", 7);
        fault("off (s)l", 7);
        fault("off s!l", 5);
        fault("off s)", 5);
        fault("off (s))", 7);
        fault("off s<l<h", 7);
        fault("off s<l=h", 7);
        fault("off s=l+1>h", 9);
        fault("off s<!l<h", 8);
        fault("off s<(l)<h", 9);
        fault("off (s<l>h)", 8);
        fault("off s,l", 5);
        fault("off s%l", 5);
        fault("off s^l", 5);
        fault("off s$l", 5);
        good("off s<l&l<h");
        good("off s<l|l<h");
        good("off (s<l)<h");
        good("off s<(l<h)");
        good("off s<!(l<h)");
        good("off s+1<l*2&s|l>3");
    }

    private static void faultsOfDepth() {
        good("off ((((((((s))))))))");
        fault("off (((((((((s)))))))))", 12);
        good("off ((((((((s))))))))+((((((((s))))))))");
        good("off ((((((((s)))))))+((s)))");
        fault("off ((((((((s)+((s", 16);
        good("off !!!!!!!!s");
        fault("off !!!!!!!!!s", 12);
        good("off !!!!!!!!s+!!!!!!!!s");
        good("off !(!(!(!(!(!(!(!(s))))))))");
        fault("off !(!(!(!(!(!(!(!(!s))))))))", 20);
        fault("off !(!(!(!(!(!(!(!((s)))))))))", 20);
        good("off !!!!!!!!((((((((s))))))))");
        good("off !!!!!!!(!s&!s)+!!!!!!!!s");
        fault("off !!!!!!!!(1+!s)", 15);
        fault("off !!!!!!!!(1+(!s))", 16);
        // with its piece a ! is over, its bracket with )
        good("off !s&!s&!s&!s&!s&!s&!s&!s&!s&!s");
        good("off (s)+(s)+(s)+(s)+(s)+(s)+(s)+(s)+(s)+(s)");
        good("off !(s)&!(s)&!(s)&!(s)&!(s)&!(s)&!(s)&!(s)&!(s)&!(s)");
    }

    private static void faultsAtTheEnd() {
        fault("", 0);
        fault("   ", 3);
        fault("off", 3);
        fault("off ", 4);
        fault("off   ", 6);
        fault("off s+", 6);
        fault("off s+ ", 7);
        fault("off (s", 6);
        fault("off (s  ", 8);
        fault("off ((s)", 8);
        fault("off !", 5);
        fault("of", 0);
        StringBuilder b = new StringBuilder("off s");
        while (b.length() < 95) {
            b.append("+s");
        }
        good(b.substring(0, 95));
        good(b.substring(0, 95) + " ");
        fault(b.substring(0, 95) + "+", 96);
    }

    private static void oddBytes() {
        fault("off\ts", 3);
        fault("off s\n", 5);
        fault("off " + (char) 233, 4);
        fault("off s" + (char) 255, 5);
        fault("off s" + (char) 0, 5);
        fault("off s" + (char) 160 + "+s", 5);
        fault("off s+" + (char) ('s' + 128), 6);
        fault("off S", 4);
        fault("off {", 4);
        fault("off `", 4);
        fault("off s:", 5);
    }

    private static void blanks() {
        good("   off s");
        good("off s   ");
        good(" off  (  s  +  1  )  *  !  l  ");
        fault("off 1 0", 6);
        fault("o ff s", 0);
    }

    private static int worthOf(String e) {
        DeadAir x = new DeadAir();
        x.voice(0, 5, 5);
        x.speak(0, 9);
        x.speak(0, 7);
        Due.due("told: " + e, Due.text(x, "fine " + e), 0);
        return x.fine(0);
    }

    private static void worth(String e, int due) {
        Due.due(e, worthOf(e), due);
    }

    private static void worth() {
        worth("1+2*3", 7);
        worth("(1+2)*3", 9);
        worth("10-3-2", 5);
        worth("10-(3-2)", 9);
        worth("100/7/2", 7);
        worth("100/(7/2)", 33);
        worth("7/2*2", 6);
        worth("2*7/3", 4);
        worth("(0-7)/2", -3);
        worth("7/(0-2)", -3);
        worth("5/0", 0);
        worth("0/0", 0);
        worth("3+5/0*9", 3);
        worth("1<2", 1);
        worth("2<2", 0);
        worth("2=2", 1);
        worth("2=3", 0);
        worth("3>2", 1);
        worth("2>2", 0);
        worth("1+1=2", 1);
        worth("0|0", 0);
        worth("5|0", 1);
        worth("0|7", 1);
        worth("3|3", 1);
        worth("5&7", 1);
        worth("5&0", 0);
        worth("4&3", 1);
        worth("0&3", 0);
        worth("1|0&0", 1);
        worth("(1|0)&0", 0);
        worth("0&0|1", 1);
        worth("1=2|3", 1);
        worth("1<2&2<3", 1);
        worth("1<2+5", 1);
        worth("!0", 1);
        worth("!7", 0);
        worth("!!7", 1);
        worth("!0+5", 6);
        worth("!0*5", 5);
        worth("!(0+5)", 0);
        worth("2*!0", 2);
        worth("!1=0", 1);
        worth("s", 2);
        worth("l", 7);
        worth("s*100+l", 207);
        worth("!s", 0);
        worth("0007", 7);
        worth("9999*10", 99990);
        worth("1-2*3-4", -9);
        worth("((((((((1+1))))))))*3", 6);
        worth("2*(3+4*(5-1))-6/2", 35);
        worth("3-1|0", 1);
    }

    private static void worthWrapped() {
        worth("9999*9999*9999", 9999 * 9999 * 9999);
        worth("0-9999*9999*9999", -(9999 * 9999 * 9999));
        worth("9999*9999*30", 9999 * 9999 * 30);
        // the lowest int by -1 stays the lowest
        worth("(0-8192*8192*32)", Integer.MIN_VALUE);
        worth("(0-8192*8192*32)/(0-1)", Integer.MIN_VALUE);
        worth("8192*8192*32-1", Integer.MAX_VALUE);
        worth("8192*8192*64", 0);
        worth("8192*8192*32<0", 1);
    }

    private static void usedUp() {
        DeadAir x = new DeadAir();
        Due.feed(x, "off s");
        Due.due("bytes", x.count(5), 5);
        Due.due("text", x.text(), 0);
        Due.due("used up", x.count(5), 0);
        Due.feed(x, "off s+");
        Due.due("fault", x.text(), -106);
        Due.due("used up by a fault", x.count(5), 0);
        Due.due("nothing is left", x.text(), -100);
    }

    /** Nothing of a tape with a fault lives on in the next one. */
    private static void behindFaults() {
        DeadAir x = new DeadAir();
        Due.due("a word", Due.text(x, "off zz"), -104);
        Due.due("behind a word", Due.text(x, "fee 2+3"), 0);
        Due.due("2+3", x.fee(), 5);
        Due.due("open brackets", Due.text(x, "fee 1+(2*(((((("), -115);
        Due.due("eight more", Due.text(x, "fee ((((((((7))))))))"), 1);
        Due.due("7", x.fee(), 7);
        Due.due("open !", Due.text(x, "fee 1-!!!!!"), -111);
        Due.due("eight more", Due.text(x, "fee !!!!!!!!5"), 2);
        Due.due("1", x.fee(), 1);
        Due.due("a bracket", Due.text(x, "fee (1"), -106);
        Due.due("is not open any more", Due.text(x, "fee 1)"), -105);
        Due.due("a sign", Due.text(x, "fee 9*"), -106);
        Due.due("does not wait any more", Due.text(x, "fee 4"), 3);
        Due.due("4", x.fee(), 4);
        Due.due("numbers", x.textTold(3, 1), 1);
    }

    private static void full() {
        DeadAir x = new DeadAir();
        for (int i = 0; i < 14; i++) {
            Due.due("text " + i, Due.text(x, "fee " + i), i);
        }
        Due.due("texts", x.count(3), 14);
        Due.due("a fault stands first", Due.text(x, "fee 1+"), -106);
        Due.due("full", Due.text(x, "fee 99"), DeadAir.FULL);
        Due.due("used up", x.count(5), 0);
        Due.due("texts still", x.count(3), 14);
        Due.due("the last counts", x.fee(), 13);
        Due.due("why", x.why(1), 13);
    }

    private static void textTold() {
        DeadAir x = new DeadAir();
        Due.due("none yet", x.textTold(0, 0), DeadAir.BAD);
        Due.text(x, "fine s");
        Due.text(x, "off (s+l)*!h<12 | 3");
        Due.text(x, "fee c");
        int[][] due = {{2, 1}, {0, 5}, {1, 1}};
        for (int i = 0; i < 3; i++) {
            Due.due("key of " + i, x.textTold(i, 0), due[i][0]);
            Due.due("numbers and names of " + i, x.textTold(i, 1), due[i][1]);
        }
        int[][] bad = {{3, 0}, {-1, 0}, {0, -1}, {0, 2}};
        for (int[] b : bad) {
            Due.due("textTold bad", x.textTold(b[0], b[1]), DeadAir.BAD);
        }
    }

    private static void why() {
        DeadAir x = new DeadAir();
        Due.due("why -1", x.why(-1), DeadAir.BAD);
        Due.due("why 3", x.why(3), DeadAir.BAD);
        for (int key = 0; key < 3; key++) {
            Due.due("none", x.why(key), DeadAir.NONE);
        }
        Due.text(x, "fee s");
        Due.text(x, "off s");
        Due.text(x, "fee c");
        Due.due("off", x.why(0), 1);
        Due.due("fee", x.why(1), 2);
        Due.due("fine", x.why(2), DeadAir.NONE);
        Due.text(x, "fee c+");
        Due.due("a fault changes nothing", x.why(1), 2);
    }
}
