import java.util.ArrayList;
import java.util.Arrays;
import java.util.List;

/**
 * The document once more, written as plainly as the Java library lets it be and with nothing
 * taken from the program: ModelTest holds the two against each other.
 */
final class Model {
    static final int BAD = -1000000001, NO = -1000000002, FULL = -1000000003, NONE = -1000000005,
            NOTHING = -1000000011, KIND = -1000000012, INDEX = -1000000013, SIZE = -1000000014;

    static final class Voice {
        int kind, wait, talk, pause, left, back, said;

        Voice(int kind, int wait, int talk) {
            this.kind = kind;
            this.wait = wait;
            this.talk = talk;
        }

        Voice twin() {
            Voice v = new Voice(kind, wait, talk);
            v.pause = pause;
            v.left = left;
            v.back = back;
            v.said = said;
            return v;
        }
    }

    static final class Text {
        int key;
        String e;
        int atoms;
    }

    /** All that an image keeps. */
    static final class World {
        List<Voice> voices = new ArrayList<>();
        List<Text> texts = new ArrayList<>();
        int listeners = 1000, cut = 110, fill, silence, silent, hole, breaths, turns, crossed;
        int jingles, cuts, last = -1, tenth, z = 1, heard;

        World twin() {
            World w = new World();
            for (Voice v : voices) {
                w.voices.add(v.twin());
            }
            w.texts.addAll(texts);
            w.listeners = listeners;
            w.cut = cut;
            w.fill = fill;
            w.silence = silence;
            w.silent = silent;
            w.hole = hole;
            w.breaths = breaths;
            w.turns = turns;
            w.crossed = crossed;
            w.jingles = jingles;
            w.cuts = cuts;
            w.last = last;
            w.tenth = tenth;
            w.z = z;
            return w;
        }

        int draw() {
            z = z * 1103515245 + 12345;
            return z >>> 8;
        }

        boolean nobody() {
            return voices.stream().allMatch(v -> v.left == 0);
        }

        int why(int key) {
            for (int i = texts.size() - 1; i >= 0; i--) {
                if (texts.get(i).key == key) {
                    return i;
                }
            }
            return -1;
        }

        int waitsAs(int i, int kind) {
            Voice v = voices.get(i);
            switch (kind) {
                case 0: return v.wait + v.back + (i == last ? v.pause : 0);
                case 1: return Math.max(1, waitsAs(i, 0) - 2);
                case 2: return waitsAs(i, 0) + 3;
                case 3: return Math.max(1, waitsAs(i, 1) / 2);
                case 4: return 2 * waitsAs(i, 2);
                default: return waitsAs(i, 0);
            }
        }

        void begin(Voice v) {
            v.left = 1 + draw() % talksAs(v, v.kind);
            v.said += 1;
            v.back = 0;
        }

        void step() {
            for (int i = 0; i < voices.size(); i++) {
                Voice v = voices.get(i);
                if (v.left != 0) {
                    v.left -= 1;
                    if (v.left == 0) {
                        last = i;
                    }
                }
            }
            if (nobody()) {
                silence += 1;
                silent += 1;
                if (silence > hole) {
                    hole = silence;
                }
            } else {
                silence = 0;
            }
            heard = silence;
            if (nobody()) {
                begins();
            }
            if (nobody() && silence != 0) {
                turnOff();
            }
            tenth += 1;
        }

        void begins() {
            List<Integer> ready = new ArrayList<>();
            for (int i = 0; i < voices.size(); i++) {
                if (voices.get(i).kind != 5 && silence >= waitsAs(i, voices.get(i).kind)) {
                    ready.add(i);
                }
            }
            if (ready.size() == 1) {
                int i = ready.get(0);
                if (i == last) {
                    breaths += 1;
                } else {
                    turns += 1;
                }
                begin(voices.get(i));
            }
            if (ready.size() >= 2) {
                crossed += 1;
                for (int i : ready) {
                    Voice v = voices.get(i);
                    if (yieldsAs(v.kind)) {
                        v.back = draw() % 6;
                    } else {
                        begin(v);
                    }
                }
                if (nobody()) {
                    silence = 0;
                }
            }
        }

        void turnOff() {
            if (fill != 0 && silence == fill) {
                listeners = Math.max(0, listeners - jingles);
                jingles += 1;
                silence = 0;
            } else if (cut != 0 && silence >= cut) {
                listeners = listeners / 2;
                cuts += 1;
                silence = 0;
            } else {
                int text = why(0);
                int fewer = silence / 20;
                if (text >= 0) {
                    int[] names = new int[128];
                    names['s'] = silence;
                    names['l'] = listeners;
                    names['h'] = hole;
                    fewer = new Worked(texts.get(text).e, names).all();
                }
                fewer = Math.min(Math.max(fewer, 0), listeners);
                listeners -= fewer;
            }
        }
    }

    /** Works E out as it stands, straight from its letters. */
    static final class Worked {
        final String e;
        final int[] names;
        int at = 0;

        Worked(String e, int[] names) {
            this.e = e.replace(" ", "");
            this.names = names;
        }

        int all() {
            return or();
        }

        char peek() {
            return at < e.length() ? e.charAt(at) : '$';
        }

        int or() {
            int v = and();
            while (peek() == '|') {
                at++;
                int w = and();
                v = v != 0 || w != 0 ? 1 : 0;
            }
            return v;
        }

        int and() {
            int v = test();
            while (peek() == '&') {
                at++;
                int w = test();
                v = v != 0 && w != 0 ? 1 : 0;
            }
            return v;
        }

        int test() {
            int v = sum();
            char c = peek();
            if (c == '<' || c == '=' || c == '>') {
                at++;
                int w = sum();
                v = (c == '<' ? v < w : c == '=' ? v == w : v > w) ? 1 : 0;
            }
            return v;
        }

        int sum() {
            int v = term();
            while (peek() == '+' || peek() == '-') {
                char c = peek();
                at++;
                int w = term();
                v = c == '+' ? v + w : v - w;
            }
            return v;
        }

        int term() {
            int v = piece();
            while (peek() == '*' || peek() == '/') {
                char c = peek();
                at++;
                int w = piece();
                v = c == '*' ? v * w : w == 0 ? 0 : v / w;
            }
            return v;
        }

        int piece() {
            char c = peek();
            at++;
            if (c == '!') {
                return piece() == 0 ? 1 : 0;
            }
            if (c == '(') {
                int v = or();
                at++;
                return v;
            }
            if (c >= 'a' && c <= 'z') {
                return names[c];
            }
            int v = c - '0';
            while (peek() >= '0' && peek() <= '9') {
                v = 10 * v + peek() - '0';
                at++;
            }
            return v;
        }
    }

    /** Reads a tape by descent; the first word that fits nowhere ends it. */
    static final class Descent {
        final String tape;
        final List<String> words = new ArrayList<>();
        final List<Integer> starts = new ArrayList<>();
        int at = 0;
        int fault = -1;
        Text text = new Text();

        Descent(String tape) {
            this.tape = tape;
            split();
            text.key = Arrays.asList("off", "fee", "fine").indexOf(peek());
            if (text.key < 0) {
                stop();
            } else {
                at++;
                int from = at < starts.size() ? starts.get(at) : tape.length();
                text.e = tape.substring(from);
                or(0, 0);
                if (at < words.size()) {
                    stop();
                }
            }
        }

        static char sort(char c) {
            return c >= 'a' && c <= 'z' ? 'a' : c >= '0' && c <= '9' ? '0' : c;
        }

        void split() {
            int i = 0;
            while (i < tape.length()) {
                if (tape.charAt(i) == ' ') {
                    i++;
                    continue;
                }
                char sort = sort(tape.charAt(i));
                int j = i + 1;
                while ((sort == 'a' || sort == '0') && j < tape.length()
                        && sort(tape.charAt(j)) == sort) {
                    j++;
                }
                String word = tape.substring(i, j);
                boolean glued = i > 0 && (sort == 'a' || sort == '0')
                        && (sort(tape.charAt(i - 1)) == 'a' || sort(tape.charAt(i - 1)) == '0');
                words.add(glued ? "?" : word);
                starts.add(i);
                i = j;
            }
        }

        String peek() {
            return fault >= 0 || at >= words.size() ? "" : words.get(at);
        }

        boolean peeks(String signs) {
            return peek().length() == 1 && signs.contains(peek());
        }

        void stop() {
            if (fault < 0) {
                fault = at < words.size() ? starts.get(at) : tape.length();
            }
        }

        void or(int brackets, int nots) {
            and(brackets, nots);
            while (peeks("|")) {
                at++;
                and(brackets, nots);
            }
        }

        void and(int brackets, int nots) {
            test(brackets, nots);
            while (peeks("&")) {
                at++;
                test(brackets, nots);
            }
        }

        void test(int brackets, int nots) {
            sum(brackets, nots);
            if (peeks("<=>")) {
                at++;
                sum(brackets, nots);
            }
        }

        void sum(int brackets, int nots) {
            term(brackets, nots);
            while (peeks("+-")) {
                at++;
                term(brackets, nots);
            }
        }

        void term(int brackets, int nots) {
            piece(brackets, nots);
            while (peeks("*/")) {
                at++;
                piece(brackets, nots);
            }
        }

        void piece(int brackets, int nots) {
            String names = new String[] {"slh", "sc", "sl"}[text.key];
            if (peek().matches("[0-9]{1,4}") || peek().length() == 1 && names.contains(peek())) {
                at++;
                text.atoms++;
            } else if (peeks("!") && nots < 8) {
                at++;
                piece(brackets, nots + 1);
            } else if (peeks("(") && brackets < 8) {
                at++;
                or(brackets + 1, nots);
                if (peeks(")")) {
                    at++;
                } else {
                    stop();
                }
            } else {
                stop();
            }
        }
    }

    static final class Sheet {
        int sort;
        Integer[] places;

        Sheet(int sort, int n) {
            this.sort = sort;
            places = new Integer[n];
            Arrays.fill(places, 0);
        }

        Sheet twin() {
            Sheet s = new Sheet(sort, 0);
            s.places = places.clone();
            return s;
        }
    }

    World now = new World();
    World image;
    String tape = "";
    Sheet[] sheets = new Sheet[4];
    Object[] slots = new Object[5];
    List<Integer> waiting = new ArrayList<>();

    static boolean in(int v, int least, int most) {
        return least <= v && v <= most;
    }

    boolean isVoice(int v) {
        return in(v, 0, now.voices.size() - 1);
    }

    static int talksAs(Voice v, int kind) {
        switch (kind) {
            case 1: return talksAs(v, 0);
            case 2: return talksAs(v, 0) / 2 + 1;
            case 3: return talksAs(v, 1) + 5;
            case 4: return talksAs(v, 2);
            case 5: return 1;
            default: return v.talk;
        }
    }

    static boolean yieldsAs(int kind) {
        return kind != 1 && kind != 3;
    }

    static int worthAs(Voice v, int kind) {
        switch (kind) {
            case 1: return worthAs(v, 0) + 9;
            case 2: return 99 - v.talk;
            case 3: return 2 * worthAs(v, 1);
            case 4: return worthAs(v, 2) - 7;
            case 5: return 3;
            default: return v.talk;
        }
    }

    static boolean under(int kind, int wanted) {
        int[] above = {-1, 0, 0, 1, 2, 0};
        for (int k = kind; k >= 0; k = above[k]) {
            if (k == wanted) {
                return true;
            }
        }
        return false;
    }

    int voice(int kind, int wait, int talk) {
        if (!in(kind, 0, 5) || !in(wait, 1, 60) || !in(talk, 1, 60)) return BAD;
        if (now.voices.size() == 5) return FULL;
        now.voices.add(new Voice(kind, wait, talk));
        return now.voices.size() - 1;
    }

    int told(int voice, int what) {
        if (!isVoice(voice) || !in(what, 0, 10)) return BAD;
        Voice v = now.voices.get(voice);
        return new int[] {v.kind, v.wait, v.talk, v.pause, v.left, v.back, v.said,
                now.waitsAs(voice, v.kind), talksAs(v, v.kind), yieldsAs(v.kind) ? 1 : 0,
                worthAs(v, v.kind)}[what];
    }

    int as(int voice, int kind) {
        if (!isVoice(voice) || !in(kind, 0, 5)) return BAD;
        Voice v = now.voices.get(voice);
        return under(v.kind, kind) ? v.wait : KIND;
    }

    int turns(int voice, int kind) {
        if (!isVoice(voice) || !in(kind, 0, 5)) return BAD;
        int was = now.voices.get(voice).kind;
        now.voices.get(voice).kind = kind;
        return was;
    }

    int set(int voice, int what, int v) {
        if (!isVoice(voice) || !in(what, 1, 3)) return BAD;
        Voice x = now.voices.get(voice);
        int was = told(voice, what);
        if (what == 1 && in(v, 1, 60)) x.wait = v;
        else if (what == 2 && in(v, 1, 60)) x.talk = v;
        else if (what == 3 && in(v, 0, 40)) x.pause = v;
        else return BAD;
        return was;
    }

    int speak(int voice, int n) {
        if (!isVoice(voice) || !in(n, 1, 60)) return BAD;
        Voice v = now.voices.get(voice);
        int was = v.left;
        v.left = n;
        v.said++;
        return was;
    }

    int hush(int voice) {
        if (!isVoice(voice)) return BAD;
        Voice v = now.voices.get(voice);
        int was = v.left;
        if (was != 0) now.last = voice;
        v.left = 0;
        return was;
    }

    int air(int what, int v) {
        if (!in(what, 0, 2) || !in(v, 0, what == 0 ? 9999 : 200)) return BAD;
        int was = what == 0 ? now.listeners : what == 1 ? now.cut : now.fill;
        if (what == 0) now.listeners = v;
        if (what == 1) now.cut = v;
        if (what == 2) now.fill = v;
        return was;
    }

    int deal(int n) {
        if (!in(n, 1, 5)) return BAD;
        int came = Math.min(n, 5 - now.voices.size());
        for (int i = 0; i < came; i++) {
            int kind = now.draw() % 6;
            int wait = 1 + now.draw() % 20;
            int talk = 1 + now.draw() % 40;
            now.voices.add(new Voice(kind, wait, talk));
        }
        return came;
    }

    int seed(int v) {
        int was = now.z;
        now.z = v;
        return was;
    }

    int tenths(int n) {
        if (!in(n, 1, 100)) return BAD;
        int before = now.silent;
        for (int i = 0; i < n && now.tenth < 9999; i++) now.step();
        return now.silent - before;
    }

    int studio(int what) {
        int set = 0;
        for (int i = 0; i < now.voices.size(); i++) {
            if (now.voices.get(i).left > 0) set += 1 << i;
        }
        int[] all = {now.listeners, now.silence, now.silent, now.hole, now.breaths, now.turns,
                now.crossed, now.jingles, now.cuts, now.last, set};
        return in(what, 0, 10) ? all[what] : BAD;
    }

    static World ahead(World w, int n) {
        for (int i = 0; i < n; i++) w.step();
        return w;
    }

    int behind(int n, int what) {
        if (!in(n, 0, 100) || what < 0 || what > 2 + now.voices.size()) return BAD;
        World w = ahead(now.twin(), n);
        if (what < 3) return new int[] {w.listeners, w.silent, w.crossed}[what];
        return w.voices.get(what - 3).said;
    }

    int next(int what) {
        if (!in(what, 0, 1)) return BAD;
        World w = now.twin();
        for (int k = 1; k <= 200; k++) {
            w.step();
            for (int i = 0; i < w.voices.size(); i++) {
                if (w.voices.get(i).said > now.voices.get(i).said) return what == 0 ? i : k;
            }
        }
        return NONE;
    }

    int hole(int s) {
        if (!in(s, 1, 200)) return BAD;
        World w = now.twin();
        for (int k = 1; k <= 200; k++) {
            w.step();
            if (w.heard >= s) return k;
        }
        return NONE;
    }

    /** knob 0 WAIT, 1 KIND of a voice, 2 CUT, 3 FILL. */
    int best(int knob, int voice, int n, int what) {
        if (knob < 2 && !isVoice(voice) || !in(n, 1, 60) || !in(what, 0, 1)) return BAD;
        int[] least = {1, 0, 5, 0};
        int[] most = {60, 5, 200, 60};
        int bestV = 0;
        int bestL = -1;
        for (int v = least[knob]; v <= most[knob]; v += knob == 2 ? 5 : 1) {
            World w = now.twin();
            if (knob == 0) w.voices.get(voice).wait = v;
            if (knob == 1) w.voices.get(voice).kind = v;
            if (knob == 2) w.cut = v;
            if (knob == 3) w.fill = v;
            int l = ahead(w, n).listeners;
            if (l > bestL) {
                bestL = l;
                bestV = v;
            }
        }
        return what == 0 ? bestV : bestL;
    }

    int apart(int one, int other, int n) {
        if (!isVoice(one) || !isVoice(other) || one == other || !in(n, 1, 60)) return BAD;
        for (int k = 0; k <= 20; k++) {
            World w = now.twin();
            w.voices.get(other).wait += k;
            if (ahead(w, n).crossed == now.crossed) return k;
        }
        return NONE;
    }

    int whose(int sheet, int what) {
        if (!in(sheet, 0, 3) || !in(what, 0, 1)) return BAD;
        Sheet s = sheets[sheet];
        if (s == null) return NOTHING;
        if (now.voices.isEmpty()) return NONE;
        int[] sums = new int[now.voices.size()];
        for (int k = 0; k < s.places.length; k++) {
            World w = ahead(now.twin(), k);
            for (int i = 0; i < sums.length; i++) {
                if (s.places[k] != null) sums[i] += Math.abs(w.voices.get(i).left - s.places[k]);
            }
        }
        int least = Arrays.stream(sums).min().getAsInt();
        for (int i = 0; i < sums.length; i++) {
            if (sums[i] == least) return what == 0 ? i : least;
        }
        return 0;
    }

    int fee() {
        int text = now.why(1);
        if (text < 0) return now.silent;
        int[] names = new int[128];
        names['s'] = now.silent;
        names['c'] = now.crossed;
        return new Worked(now.texts.get(text).e, names).all();
    }

    int fine(int voice) {
        if (!isVoice(voice)) return BAD;
        Voice v = now.voices.get(voice);
        int text = now.why(2);
        if (text < 0) return v.said;
        int[] names = new int[128];
        names['s'] = v.said;
        names['l'] = v.left;
        return new Worked(now.texts.get(text).e, names).all();
    }

    int feed(int a, int b, int c) {
        if (tape.length() + 12 > 96) return FULL;
        for (int v : new int[] {a, b, c}) {
            for (int i = 3; i >= 0; i--) tape += (char) (v >> 8 * i & 0xff);
        }
        return tape.length();
    }

    int trim(int n) {
        if (!in(n, 0, tape.length())) return BAD;
        tape = tape.substring(0, n);
        return n;
    }

    int text() {
        Descent d = new Descent(tape);
        tape = "";
        if (d.fault >= 0) return -100 - d.fault;
        if (now.texts.size() == 14) return FULL;
        now.texts.add(d.text);
        return now.texts.size() - 1;
    }

    int textTold(int text, int what) {
        if (!in(text, 0, now.texts.size() - 1) || !in(what, 0, 1)) return BAD;
        return what == 0 ? now.texts.get(text).key : now.texts.get(text).atoms;
    }

    int why(int key) {
        if (!in(key, 0, 2)) return BAD;
        return now.why(key) < 0 ? NONE : now.why(key);
    }

    int sheet(int sheet, int sort, int n) {
        if (!in(sheet, 0, 3) || !in(sort, -1, 1)) return BAD;
        if (sort == -1) {
            sheets[sheet] = null;
            return 0;
        }
        if (n > 24) return BAD;
        if (n < 0) return SIZE;
        sheets[sheet] = new Sheet(sort, n);
        return n;
    }

    int mark(int sheet, int place, int v) {
        if (!in(sheet, 0, 3)) return BAD;
        Sheet s = sheets[sheet];
        if (s == null) return NOTHING;
        if (!in(place, 0, s.places.length - 1)) return INDEX;
        if (s.sort == 0) {
            if (v == NONE) return KIND;
            s.places[place] = (int) (short) v;
        } else {
            if (v != NONE && !in(v, -99999, 99999)) return BAD;
            s.places[place] = v == NONE ? null : (Integer) v;
        }
        return 1;
    }

    int pour(int sheet) {
        if (!in(sheet, 0, 3)) return BAD;
        Sheet s = sheets[sheet];
        if (s == null) return NOTHING;
        int changed = 0;
        for (int i = 0; i < Math.min(now.voices.size(), s.places.length); i++) {
            if (s.places[i] == null) continue;
            int w = s.places[i] < 1 ? 1 : s.places[i] > 60 ? 60 : s.places[i];
            if (w != now.voices.get(i).wait) changed++;
            now.voices.get(i).wait = w;
        }
        return changed;
    }

    int reads(int sheet) {
        if (!in(sheet, 0, 3)) return BAD;
        Sheet s = sheets[sheet];
        if (s == null) return NOTHING;
        for (int i = 0; i < s.places.length; i++) {
            if (s.places[i] == null) continue;
            if (i >= now.voices.size() || now.voices.get(i).said != s.places[i]) return i;
        }
        return NONE;
    }

    int copy(int from, int place, int to, int at, int many) {
        if (!in(from, 0, 3) || !in(to, 0, 3)) return BAD;
        Sheet f = sheets[from];
        Sheet t = sheets[to];
        if (f == null || t == null) return NOTHING;
        if (f.sort != t.sort) return KIND;
        if (place < 0 || at < 0 || many < 0 || (long) place + many > f.places.length
                || (long) at + many > t.places.length) return INDEX;
        Integer[] was = f.places.clone();
        for (int i = 0; i < many; i++) t.places[at + i] = was[place + i];
        return many;
    }

    static int thing(Object o) {
        return o == null ? 0 : o instanceof Voice ? 1 : o instanceof Sheet ? 2 : 3;
    }

    int lay(int slot, int thing, int k) {
        if (!in(slot, 0, 4) || !in(thing, 0, 3)) return BAD;
        if (thing == 1 && !isVoice(k) || thing == 2 && !in(k, 0, 3)) return BAD;
        if (thing == 2 && sheets[k] == null) return NOTHING;
        int was = thing(slots[slot]);
        if (thing == 0) slots[slot] = null;
        if (thing == 1) slots[slot] = now.voices.get(k).twin();
        if (thing == 2) slots[slot] = sheets[k].twin();
        if (thing == 3) slots[slot] = k;
        return was;
    }

    int ask(int slot, int kind) {
        if (!in(slot, 0, 4) || !in(kind, 0, 5)) return BAD;
        if (slots[slot] == null) return NOTHING;
        if (thing(slots[slot]) != 1) return KIND;
        Voice v = (Voice) slots[slot];
        return under(v.kind, kind) ? worthAs(v, v.kind) : KIND;
    }

    int item(int slot, int place) {
        if (!in(slot, 0, 4)) return BAD;
        if (slots[slot] == null) return NOTHING;
        if (thing(slots[slot]) != 2) return KIND;
        Sheet s = (Sheet) slots[slot];
        if (!in(place, 0, s.places.length - 1)) return INDEX;
        return s.places[place] == null ? KIND : s.places[place];
    }

    int rest(int slot, int n) {
        if (!in(slot, 0, 4)) return BAD;
        if (slots[slot] == null) return NOTHING;
        if (thing(slots[slot]) != 3) return KIND;
        return n == 0 ? NO : (int) ((long) (Integer) slots[slot] % n);
    }

    int tell(int v) {
        if (waiting.size() == 60) return FULL;
        waiting.add(v);
        return waiting.size();
    }

    int check(int n) {
        List<Integer> told = waiting;
        waiting = new ArrayList<>();
        if (!in(n, 1, 30)) return BAD;
        if (image == null) return NO;
        List<Integer> due = new ArrayList<>();
        World w = image.twin();
        for (int i = 0; i < n && w.tenth < 9999; i++) {
            w.step();
            due.add(w.silent);
            due.add(w.listeners);
        }
        if (told.equals(due)) return 0;
        int same = 0;
        while (same < told.size() && same < due.size() && told.get(same).equals(due.get(same))) {
            same++;
        }
        return 1 + same;
    }

    int keep() {
        image = now.twin();
        return image.voices.size();
    }

    int back() {
        if (image == null) return NO;
        now = image.twin();
        return now.voices.size();
    }

    int count(int what) {
        int[] all = {now.voices.size(), now.tenth, now.cut, now.texts.size(), waiting.size(),
                tape.length(), now.z};
        return in(what, 0, 6) ? all[what] : BAD;
    }
}
