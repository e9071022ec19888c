import java.util.Random;

/** Runs by lot of up to 512 calls: the program and the model answer alike. */
public final class ModelTest {
    private static final int[] ODD = {-1, 0, 5, 6, 7, 24, 25, 60, 61, 100, 101, 200, 201, 9999,
        10000, 99999, 100000, -99999, -100000, Integer.MIN_VALUE, Integer.MAX_VALUE,
        DeadAir.BAD, DeadAir.NONE, 32768, -32769, 65536};
    private static final String[] CALLS = {"voice", "told", "as", "turns", "set", "speak", "hush",
        "air", "deal", "seed", "tenths", "studio", "behind", "next", "hole", "patience", "device",
        "filler", "becomes", "apart", "whose", "fee", "fine", "feed", "trim", "text", "textTold",
        "why", "sheet", "mark", "pour", "reads", "copy", "lay", "ask", "item", "rest", "tell",
        "check", "keep", "back", "count"};

    private static final String SIGNS = "!()|&<=>+-*/ 09slhcz#\u00e9\t";

    private final Random lot;
    private final DeadAir x = new DeadAir();
    private final Model m = new Model();
    private final int run;
    private final int odd;

    private ModelTest(int run) {
        this.run = run;
        lot = new Random(run);
        odd = new int[] {3, 10, 40, 400}[run % 4];
    }

    public static void main(String[] args) {
        int runs = args.length > 0 ? Integer.parseInt(args[0]) : 600;
        for (int run = 0; run < runs; run++) {
            new ModelTest(run).go();
        }
        Due.end();
    }

    private void go() {
        int calls = 0;
        while (calls < 490) {
            int what = lot.nextInt(CALLS.length + 14);
            if (what < CALLS.length) {
                call(CALLS[what]);
                calls++;
            } else if (what < CALLS.length + 3) {
                calls += tellText();
            } else if (what == CALLS.length + 3) {
                calls += tellRow();
            } else if (what < CALLS.length + 9) {
                int n = lot.nextInt(3) == 0 ? 100 : 1 + lot.nextInt(20);
                same("tenths(" + n + ")", x.tenths(n), m.tenths(n));
                calls++;
            } else {
                call(lot.nextBoolean() ? "told" : "studio");
                calls++;
            }
        }
    }

    private void same(String call, int got, int want) {
        Due.due("run " + run + ": " + call, got, want);
    }

    /** A number from least to most, or now and then an odd one. */
    private int pick(int least, int most) {
        if (lot.nextInt(odd) == 0) {
            return lot.nextInt(4) == 0 ? least - 1 : lot.nextInt(4) == 0 ? most + 1
                : ODD[lot.nextInt(ODD.length)];
        }
        return least + lot.nextInt(most - least + 1);
    }

    private int tellText() {
        String s = lot.nextInt(4) == 0 ? soup() : textByLot();
        if (lot.nextInt(3) == 0 && s.length() > 0) {
            int at = lot.nextInt(s.length());
            String with = lot.nextInt(2) == 0 ? "" : "" + SIGNS.charAt(lot.nextInt(SIGNS.length()));
            s = s.substring(0, at) + with + s.substring(at + lot.nextInt(2));
        }
        s = s.length() > 96 ? s.substring(0, 96) : s;
        int calls = 2;
        same("trim(0)", x.trim(0), m.trim(0));
        for (int i = 0; i < s.length(); i += 12) {
            int a = Due.word(s, i);
            int b = Due.word(s, i + 4);
            int c = Due.word(s, i + 8);
            same("feed " + s, x.feed(a, b, c), m.feed(a, b, c));
            calls++;
        }
        if (lot.nextInt(4) != 0) {
            same("trim " + s, x.trim(s.length()), m.trim(s.length()));
            calls++;
        }
        same("text '" + s + "'", x.text(), m.text());
        return calls;
    }

    private String soup() {
        String[] bits = {"off", "fee", "fine", " ", " ", "s", "l", "h", "c", "(", ")", "!", "+",
            "-", "*", "/", "<", "=", ">", "&", "|", "1", "20", "300", "4000", "50000", "((", "!!",
            "sl", "?", "A"};
        StringBuilder b = new StringBuilder(new String[] {"off ", "fee ", "fine ", ""}[lot.nextInt(4)]);
        int many = lot.nextInt(12);
        for (int i = 0; i < many; i++) {
            b.append(bits[lot.nextInt(bits.length)]);
        }
        return b.toString();
    }

    private String textByLot() {
        int key = lot.nextInt(3);
        String e = or(key, lot.nextInt(3) == 0 ? 9 : 3);
        String gap = e.matches("[a-z0-9].*") || lot.nextBoolean() ? " " : "";
        return blanks() + new String[] {"off", "fee", "fine"}[key] + gap + e + blanks();
    }

    private String blanks() {
        return lot.nextInt(5) == 0 ? " " : "";
    }

    private String or(int key, int depth) {
        int sort = lot.nextInt(10);
        if (sort == 0 && depth > 0) {
            return "(" + or(key, depth - 1) + ")";
        }
        if (sort == 1 && depth > 0) {
            return "!" + blanks() + or(key, depth - 1);
        }
        if (sort < 6 && depth > 0) {
            String sign = "" + "|&<=>+-*/".charAt(lot.nextInt(9));
            return or(key, depth - 1) + blanks() + sign + blanks() + or(key, depth - 1);
        }
        if (depth > 6) {
            return "!!(((!" + or(key, depth - 3) + ")))";
        }
        String names = new String[] {"slh", "sc", "sl"}[key];
        return lot.nextBoolean() ? "" + names.charAt(lot.nextInt(names.length()))
            : "" + lot.nextInt(lot.nextInt(3) == 0 ? 10000 : 9);
    }

    /** The row that is due behind an image, sometimes with one number wrong or cut or added. */
    private int tellRow() {
        if (m.image == null) {
            same("keep", x.keep(), m.keep());
        }
        int n = 1 + lot.nextInt(6);
        Model.World w = m.image.twin();
        int wrongAt = lot.nextInt(3) == 0 ? lot.nextInt(2 * n) : -1;
        int many = 2 * n + (lot.nextInt(3) == 0 ? lot.nextInt(3) - 1 : 0);
        int calls = 1;
        for (int i = 0; i < many; i++) {
            if (i % 2 == 0 && w.tenth < 9999) {
                w.step();
            }
            int v = (i % 2 == 0 ? w.silent : w.listeners) + (i == wrongAt ? 1 : 0);
            same("tell", x.tell(v), m.tell(v));
            calls++;
        }
        same("check(" + n + ") of a row", x.check(n), m.check(n));
        return calls;
    }

    private void call(String name) {
        String word = " " + name + " ";
        if (" behind next hole patience device filler becomes apart whose fee fine ".contains(word)) {
            ahead(name);
        } else if (" sheet mark pour reads copy lay ask item rest ".contains(word)) {
            sheets(name);
        } else if (" feed trim text textTold why tell check keep back count ".contains(word)) {
            rows(name);
        } else {
            voices(name);
        }
    }

    private void voices(String name) {
        int a = pick(0, 4);
        int b = pick(0, 5);
        int c = pick(1, 40);
        int t = pick(1, 60);
        String call = name + "(" + a + ", " + b + ", " + c + ", " + t + ")";
        switch (name) {
            case "voice": same(call, x.voice(b, c, t), m.voice(b, c, t)); break;
            case "told": b = pick(0, 10); same(call + b, x.told(a, b), m.told(a, b)); break;
            case "as": same(call, x.as(a, b), m.as(a, b)); break;
            case "turns": same(call, x.turns(a, b), m.turns(a, b)); break;
            case "set": same(call, x.set(a, b, c), m.set(a, b, c)); break;
            case "speak": same(call, x.speak(a, c), m.speak(a, c)); break;
            case "hush": same(call, x.hush(a), m.hush(a)); break;
            case "air":
                int v = lot.nextInt(3) == 0 ? pick(0, 9999) : pick(0, 12);
                b = pick(0, 2);
                same(call + b + " " + v, x.air(b, v), m.air(b, v));
                break;
            case "deal": same(call, x.deal(b), m.deal(b)); break;
            case "seed": c = lot.nextInt(); same(call + c, x.seed(c), m.seed(c)); break;
            case "tenths": c = pick(1, 100); same(call + c, x.tenths(c), m.tenths(c)); break;
            default: b = pick(0, 10); same(call + b, x.studio(b), m.studio(b)); break;
        }
    }

    private void ahead(String name) {
        int a = pick(0, 4);
        int n = pick(1, 60);
        int w = pick(0, 1);
        String call = name + "(" + a + ", " + n + ", " + w + ")";
        switch (name) {
            case "behind": w = pick(0, 7); same(call + w, x.behind(n, w), m.behind(n, w)); break;
            case "next": same(call, x.next(w), m.next(w)); break;
            case "hole": n = pick(1, lot.nextBoolean() ? 9 : 200); same(call + n, x.hole(n), m.hole(n)); break;
            case "patience": same(call, x.patience(a, n, w), m.best(0, a, n, w)); break;
            case "device": same(call, x.device(n, w), m.best(2, 0, n, w)); break;
            case "filler": same(call, x.filler(n, w), m.best(3, 0, n, w)); break;
            case "becomes": same(call, x.becomes(a, n, w), m.best(1, a, n, w)); break;
            case "apart": w = pick(0, 4); same(call + w, x.apart(a, w, n), m.apart(a, w, n)); break;
            case "whose": same(call, x.whose(a, w), m.whose(a, w)); break;
            case "fee": same(call, x.fee(), m.fee()); break;
            default: same(call, x.fine(a), m.fine(a)); break;
        }
    }

    private void rows(String name) {
        int a = pick(0, 2);
        int b = lot.nextInt();
        switch (name) {
            case "feed": same(name, x.feed(b, a, b), m.feed(b, a, b)); break;
            case "trim": a = pick(0, 96); same(name + a, x.trim(a), m.trim(a)); break;
            case "text": same(name, x.text(), m.text()); break;
            case "textTold": b = pick(0, 13); same(name + b + " " + a, x.textTold(b, a), m.textTold(b, a)); break;
            case "why": same(name + a, x.why(a), m.why(a)); break;
            case "tell": same(name, x.tell(b), m.tell(b)); break;
            case "check": a = pick(1, 30); same(name + a, x.check(a), m.check(a)); break;
            case "keep": same(name, x.keep(), m.keep()); break;
            case "back": same(name, x.back(), m.back()); break;
            default: a = pick(0, 6); same(name + a, x.count(a), m.count(a)); break;
        }
    }

    private void sheets(String name) {
        int s = pick(0, 3);
        int p = pick(0, 9);
        int v = lot.nextInt(4) == 0 ? pick(-99999, 99999) : lot.nextInt(6) == 0 ? DeadAir.NONE : pick(0, 9);
        int sort = pick(-1, 1);
        int n = pick(0, 24);
        String call = name + "(" + s + ", " + p + ", " + v + ", " + sort + ", " + n + ")";
        switch (name) {
            case "sheet": same(call, x.sheet(s, sort, n), m.sheet(s, sort, n)); break;
            case "mark": same(call, x.mark(s, p, v), m.mark(s, p, v)); break;
            case "pour": same(call, x.pour(s), m.pour(s)); break;
            case "reads": same(call, x.reads(s), m.reads(s)); break;
            case "copy":
                int t = pick(0, 3);
                same(call + t, x.copy(s, p, t, n / 2, sort + 2), m.copy(s, p, t, n / 2, sort + 2));
                break;
            case "lay":
                int thing = pick(0, 3);
                v = lot.nextBoolean() ? pick(0, 3) : v;
                same(call + thing + " " + v, x.lay(p / 2, thing, v), m.lay(p / 2, thing, v));
                break;
            case "ask": n = pick(0, 5); same(call + n, x.ask(p / 2, n), m.ask(p / 2, n)); break;
            case "item": same(call, x.item(s, p), m.item(s, p)); break;
            default: same(call, x.rest(s, v), m.rest(s, v)); break;
        }
    }
}
