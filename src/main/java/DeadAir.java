/**
 * Voices at microphones, and the silence while none of them speaks.
 *
 * The words in capitals are the terms of the document, whose promises this class keeps. No call
 * throws, and no call makes an object: all rows are made by the constructor and used again.
 */
public final class DeadAir {
    public static final int BAD = -1000000001, NO = -1000000002, FULL = -1000000003,
            NONE = -1000000005, NOTHING = -1000000011, KIND = -1000000012, INDEX = -1000000013,
            SIZE = -1000000014;

    private static final int LAST_TENTH = 9999;
    private static final int FARTHEST_LOOK = 200;
    private static final int MOST_VOICES = 5, MOST_TEXTS = 14, MOST_BYTES = 96, MOST_PLACES = 24,
            MOST_WAITING = 60;
    private static final int SHEETS = 4, SLOTS = 5;

    private static final int VOICE = 0, HOST = 1, GUEST = 2, LEAD = 3, SHY = 4, QUIET = 5;
    private static final int OFF = 0, FEE = 1, FINE = 2;
    private static final int MISSING = -1, SHORTS = 0, FLOATS = 1;
    private static final int HOLDS_NOTHING = 0, HOLDS_VOICE = 1, HOLDS_SHEET = 2, HOLDS_NUMBER = 3;

    private final Texts texts;
    private final Reader reader;
    private final Studio now;
    private final Studio thought;
    private final Studio image;
    private boolean imageKept;
    private final Best best;
    private final Sheet[] sheets;
    private final Slot[] slots;
    private final int[] waiting;
    private int waitingMany;

    public DeadAir() {
        Texts all = new Texts();
        texts = all;
        reader = new Reader();
        now = new Studio(all);
        thought = new Studio(all);
        image = new Studio(all);
        best = new Best();
        sheets = new Sheet[SHEETS];
        for (int i = 0; i < SHEETS; i++) {
            sheets[i] = new Sheet();
        }
        slots = new Slot[SLOTS];
        for (int i = 0; i < SLOTS; i++) {
            slots[i] = new Slot();
        }
        waiting = new int[MOST_WAITING];
    }

    // ---- voices

    public int voice(int kind, int wait, int talk) {
        if (!isKind(kind) || !Voice.allows(1, wait) || !Voice.allows(2, talk)) {
            return BAD;
        }
        if (!now.hasRoom()) {
            return FULL;
        }
        return now.seat(kind, wait, talk);
    }

    public int told(int voice, int what) {
        if (!now.has(voice)) {
            return BAD;
        }
        Voice her = now.voices[voice];
        switch (what) {
            case 0: return her.kind;
            case 1: return her.wait;
            case 2: return her.talk;
            case 3: return her.pause;
            case 4: return her.left;
            case 5: return her.back;
            case 6: return her.said;
            case 7: return her.waits(voice == now.last);
            case 8: return her.talks();
            case 9: return her.yields() ? 1 : 0;
            case 10: return her.worth();
            default: return BAD;
        }
    }

    public int as(int voice, int kind) {
        if (!now.has(voice) || !isKind(kind)) {
            return BAD;
        }
        Voice her = now.voices[voice];
        return her.isOf(kind) ? her.wait : KIND;
    }

    public int turns(int voice, int kind) {
        if (!now.has(voice) || !isKind(kind)) {
            return BAD;
        }
        Voice her = now.voices[voice];
        int was = her.kind;
        her.kind = kind;
        return was;
    }

    public int set(int voice, int what, int v) {
        if (!now.has(voice) || !Voice.allows(what, v)) {
            return BAD;
        }
        return now.voices[voice].put(what, v);
    }

    public int speak(int voice, int n) {
        if (!now.has(voice) || !within(n, 1, 60)) {
            return BAD;
        }
        Voice her = now.voices[voice];
        int was = her.left;
        her.left = n;
        her.said++;
        return was;
    }

    public int hush(int voice) {
        if (!now.has(voice)) {
            return BAD;
        }
        Voice her = now.voices[voice];
        int was = her.left;
        if (was != 0) {
            her.left = 0;
            now.last = voice;
        }
        return was;
    }

    public int air(int what, int v) {
        if (!Studio.allows(what, v)) {
            return BAD;
        }
        return now.put(what, v);
    }

    public int deal(int n) {
        if (!within(n, 1, MOST_VOICES)) {
            return BAD;
        }
        int came = 0;
        for (int i = 0; i < n && now.hasRoom(); i++) {
            now.seatDrawn();
            came++;
        }
        return came;
    }

    public int seed(int v) {
        int was = now.z;
        now.z = v;
        return was;
    }

    // ---- tenths

    public int tenths(int n) {
        if (!within(n, 1, 100)) {
            return BAD;
        }
        int silentBefore = now.silent;
        now.run(Math.min(n, LAST_TENTH - now.tenth));
        return now.silent - silentBefore;
    }

    public int studio(int what) {
        switch (what) {
            case 0: return now.listeners;
            case 1: return now.silence;
            case 2: return now.silent;
            case 3: return now.longestHole;
            case 4: return now.breaths;
            case 5: return now.taken;
            case 6: return now.crossed;
            case 7: return now.jingles;
            case 8: return now.cuts;
            case 9: return now.last;
            case 10: return now.speakers();
            default: return BAD;
        }
    }

    // ---- what will be

    public int behind(int n, int what) {
        if (!within(n, 0, 100) || !within(what, 0, 2 + now.many)) {
            return BAD;
        }
        thought.become(now);
        thought.run(n);
        switch (what) {
            case 0: return thought.listeners;
            case 1: return thought.silent;
            case 2: return thought.crossed;
            default: return thought.voices[what - 3].said;
        }
    }

    public int next(int what) {
        if (!within(what, 0, 1)) {
            return BAD;
        }
        thought.become(now);
        for (int behind = 1; behind <= FARTHEST_LOOK; behind++) {
            thought.run(1);
            int voice = thought.firstWhoSaidMore(now);
            if (voice >= 0) {
                return what == 0 ? voice : behind;
            }
        }
        return NONE;
    }

    public int hole(int s) {
        if (!within(s, 1, 200)) {
            return BAD;
        }
        thought.become(now);
        for (int behind = 1; behind <= FARTHEST_LOOK; behind++) {
            thought.hear();
            if (thought.silence >= s) {
                return behind;
            }
            thought.goOn();
        }
        return NONE;
    }

    public int patience(int voice, int n, int what) {
        if (!now.has(voice) || !isBestAsked(n, what)) {
            return BAD;
        }
        best.clear();
        for (int wait = 1; wait <= 60; wait++) {
            thought.become(now);
            thought.voices[voice].wait = wait;
            thought.run(n);
            best.weigh(wait, thought.listeners);
        }
        return best.answer(what);
    }

    public int device(int n, int what) {
        if (!isBestAsked(n, what)) {
            return BAD;
        }
        best.clear();
        for (int cut = 5; cut <= 200; cut += 5) {
            thought.become(now);
            thought.cut = cut;
            thought.run(n);
            best.weigh(cut, thought.listeners);
        }
        return best.answer(what);
    }

    public int filler(int n, int what) {
        if (!isBestAsked(n, what)) {
            return BAD;
        }
        best.clear();
        for (int fill = 0; fill <= 60; fill++) {
            thought.become(now);
            thought.fill = fill;
            thought.run(n);
            best.weigh(fill, thought.listeners);
        }
        return best.answer(what);
    }

    public int becomes(int voice, int n, int what) {
        if (!now.has(voice) || !isBestAsked(n, what)) {
            return BAD;
        }
        best.clear();
        for (int kind = VOICE; kind <= QUIET; kind++) {
            thought.become(now);
            thought.voices[voice].kind = kind;
            thought.run(n);
            best.weigh(kind, thought.listeners);
        }
        return best.answer(what);
    }

    public int apart(int one, int other, int n) {
        if (!now.has(one) || !now.has(other) || one == other || !within(n, 1, 60)) {
            return BAD;
        }
        for (int more = 0; more <= 20; more++) {
            thought.become(now);
            thought.voices[other].wait += more;
            thought.run(n);
            if (thought.crossed == now.crossed) {
                return more;
            }
        }
        return NONE;
    }

    public int whose(int sheet, int what) {
        if (!isSheet(sheet) || !within(what, 0, 1)) {
            return BAD;
        }
        Sheet row = sheets[sheet];
        if (row.isMissing()) {
            return NOTHING;
        }
        if (now.many == 0) {
            return NONE;
        }
        int closest = 0;
        int least = differences(0, row);
        for (int voice = 1; voice < now.many; voice++) {
            int together = differences(voice, row);
            if (together < least) {
                closest = voice;
                least = together;
            }
        }
        return what == 0 ? closest : least;
    }

    public int fee() {
        int text = now.counting[FEE];
        return text < 0 ? now.silent : texts.give(text, now.silent, now.crossed, 0);
    }

    public int fine(int voice) {
        if (!now.has(voice)) {
            return BAD;
        }
        Voice her = now.voices[voice];
        int text = now.counting[FINE];
        return text < 0 ? her.said : texts.give(text, her.said, her.left, 0);
    }

    // ---- texts

    public int feed(int a, int b, int c) {
        if (reader.length + 12 > MOST_BYTES) {
            return FULL;
        }
        reader.append(a);
        reader.append(b);
        reader.append(c);
        return reader.length;
    }

    public int trim(int n) {
        if (!within(n, 0, reader.length)) {
            return BAD;
        }
        reader.length = n;
        return n;
    }

    public int text() {
        int fault = reader.fault();
        reader.length = 0;
        if (fault >= 0) {
            return -100 - fault;
        }
        if (now.textsMany >= MOST_TEXTS) {
            return FULL;
        }
        int number = now.textsMany;
        texts.list[number].become(reader.draft);
        now.addText(reader.draft.key);
        return number;
    }

    public int textTold(int text, int what) {
        if (!within(text, 0, now.textsMany - 1) || !within(what, 0, 1)) {
            return BAD;
        }
        return what == 0 ? texts.list[text].key : texts.list[text].atoms;
    }

    public int why(int key) {
        if (!within(key, OFF, FINE)) {
            return BAD;
        }
        return now.counting[key] < 0 ? NONE : now.counting[key];
    }

    // ---- sheets, slots

    public int sheet(int sheet, int sort, int n) {
        if (!isSheet(sheet) || !within(sort, MISSING, FLOATS)) {
            return BAD;
        }
        if (sort == MISSING) {
            sheets[sheet].clear(MISSING, 0);
            return 0;
        }
        if (n > MOST_PLACES) {
            return BAD;
        }
        if (n < 0) {
            return SIZE;
        }
        sheets[sheet].clear(sort, n);
        return n;
    }

    public int mark(int sheet, int place, int v) {
        if (!isSheet(sheet)) {
            return BAD;
        }
        Sheet row = sheets[sheet];
        if (row.isMissing()) {
            return NOTHING;
        }
        if (!row.hasPlace(place)) {
            return INDEX;
        }
        if (row.sort == SHORTS) {
            if (v == NONE) {
                return KIND;
            }
            row.places[place] = (short) v;
            return 1;
        }
        if (v != NONE && !within(v, -99999, 99999)) {
            return BAD;
        }
        row.places[place] = v;
        return 1;
    }

    public int pour(int sheet) {
        if (!isSheet(sheet)) {
            return BAD;
        }
        Sheet row = sheets[sheet];
        if (row.isMissing()) {
            return NOTHING;
        }
        int otherwise = 0;
        for (int i = 0; i < now.many; i++) {
            if (row.isNumber(i)) {
                int wait = Math.max(1, Math.min(row.places[i], 60));
                if (wait != now.voices[i].wait) {
                    now.voices[i].wait = wait;
                    otherwise++;
                }
            }
        }
        return otherwise;
    }

    public int reads(int sheet) {
        if (!isSheet(sheet)) {
            return BAD;
        }
        Sheet row = sheets[sheet];
        if (row.isMissing()) {
            return NOTHING;
        }
        for (int k = 0; k < row.size; k++) {
            if (row.isNumber(k) && (!now.has(k) || row.places[k] != now.voices[k].said)) {
                return k;
            }
        }
        return NONE;
    }

    public int copy(int from, int place, int to, int at, int many) {
        if (!isSheet(from) || !isSheet(to)) {
            return BAD;
        }
        Sheet source = sheets[from];
        Sheet target = sheets[to];
        if (source.isMissing() || target.isMissing()) {
            return NOTHING;
        }
        if (source.sort != target.sort) {
            return KIND;
        }
        if (!source.hasPlaces(place, many) || !target.hasPlaces(at, many)) {
            return INDEX;
        }
        System.arraycopy(source.places, place, target.places, at, many);
        return many;
    }

    public int lay(int slot, int thing, int k) {
        if (!isSlot(slot) || !within(thing, HOLDS_NOTHING, HOLDS_NUMBER)) {
            return BAD;
        }
        if (thing == HOLDS_VOICE && !now.has(k) || thing == HOLDS_SHEET && !isSheet(k)) {
            return BAD;
        }
        if (thing == HOLDS_SHEET && sheets[k].isMissing()) {
            return NOTHING;
        }
        Slot place = slots[slot];
        int held = place.thing;
        place.thing = thing;
        if (thing == HOLDS_VOICE) {
            place.voice.become(now.voices[k]);
        } else if (thing == HOLDS_SHEET) {
            place.row.become(sheets[k]);
        } else {
            place.number = k;
        }
        return held;
    }

    public int ask(int slot, int kind) {
        if (!isSlot(slot) || !isKind(kind)) {
            return BAD;
        }
        int finding = slots[slot].finding(HOLDS_VOICE);
        if (finding != 0) {
            return finding;
        }
        Voice her = slots[slot].voice;
        return her.isOf(kind) ? her.worth() : KIND;
    }

    public int item(int slot, int place) {
        if (!isSlot(slot)) {
            return BAD;
        }
        int finding = slots[slot].finding(HOLDS_SHEET);
        if (finding != 0) {
            return finding;
        }
        Sheet row = slots[slot].row;
        if (!row.hasPlace(place)) {
            return INDEX;
        }
        return row.isNumber(place) ? row.places[place] : KIND;
    }

    public int rest(int slot, int n) {
        if (!isSlot(slot)) {
            return BAD;
        }
        int finding = slots[slot].finding(HOLDS_NUMBER);
        if (finding != 0) {
            return finding;
        }
        return n == 0 ? NO : slots[slot].number % n;
    }

    // ---- rows, images

    public int tell(int v) {
        if (waitingMany >= MOST_WAITING) {
            return FULL;
        }
        waiting[waitingMany] = v;
        waitingMany++;
        return waitingMany;
    }

    public int check(int n) {
        int toldMany = waitingMany;
        waitingMany = 0;
        if (!within(n, 1, 30)) {
            return BAD;
        }
        if (!imageKept) {
            return NO;
        }
        int steps = Math.min(n, LAST_TENTH - image.tenth);
        thought.become(image);
        for (int i = 0; i < steps; i++) {
            thought.run(1);
            if (!isWaiting(2 * i, toldMany, thought.silent)) {
                return 1 + 2 * i;
            }
            if (!isWaiting(2 * i + 1, toldMany, thought.listeners)) {
                return 2 + 2 * i;
            }
        }
        return toldMany > 2 * steps ? 1 + 2 * steps : 0;
    }

    public int keep() {
        image.become(now);
        imageKept = true;
        return image.many;
    }

    public int back() {
        if (!imageKept) {
            return NO;
        }
        now.become(image);
        return now.many;
    }

    public int count(int what) {
        switch (what) {
            case 0: return now.many;
            case 1: return now.tenth;
            case 2: return now.cut;
            case 3: return now.textsMany;
            case 4: return waitingMany;
            case 5: return reader.length;
            case 6: return now.z;
            default: return BAD;
        }
    }

    // ---- what the calls share

    private boolean isWaiting(int place, int toldMany, int v) {
        return within(place, 0, MOST_WAITING - 1) && place < toldMany && waiting[place] == v;
    }

    /** By how much LEFT of a VOICE behind k TENTHS and the places k differ, together. */
    private int differences(int voice, Sheet row) {
        int together = 0;
        thought.become(now);
        for (int k = 0; k < row.size; k++) {
            if (row.isNumber(k)) {
                together += Math.abs(thought.voices[voice].left - row.places[k]);
            }
            thought.run(1);
        }
        return together;
    }

    private static boolean isBestAsked(int n, int what) {
        return within(n, 1, 60) && within(what, 0, 1);
    }

    private static boolean isKind(int kind) {
        return within(kind, VOICE, QUIET);
    }

    private static boolean isSheet(int sheet) {
        return within(sheet, 0, SHEETS - 1);
    }

    private static boolean isSlot(int slot) {
        return within(slot, 0, SLOTS - 1);
    }

    private static boolean within(int v, int least, int most) {
        return v >= least && v <= most;
    }

    /** One VOICE, and what her KIND makes of her numbers. */
    private static final class Voice {
        int kind;
        int wait;
        int talk;
        int pause;
        int left;
        int back;
        int said;

        /** Whether v is within the bounds of WAIT, TALK, PAUSE (what 1 .. 3). */
        static boolean allows(int what, int v) {
            switch (what) {
                case 1: return within(v, 1, 60);
                case 2: return within(v, 1, 60);
                case 3: return within(v, 0, 40);
                default: return false;
            }
        }

        /** Puts v into WAIT, TALK or PAUSE (what 1 .. 3): what it was. */
        int put(int what, int v) {
            int was;
            if (what == 1) {
                was = wait;
                wait = v;
            } else if (what == 2) {
                was = talk;
                talk = v;
            } else {
                was = pause;
                pause = v;
            }
            return was;
        }

        void become(Voice other) {
            kind = other.kind;
            wait = other.wait;
            talk = other.talk;
            pause = other.pause;
            left = other.left;
            back = other.back;
            said = other.said;
        }

        boolean isOf(int wanted) {
            return kind == wanted || aboveHer() == wanted || wanted == VOICE;
        }

        private int aboveHer() {
            switch (kind) {
                case LEAD: return HOST;
                case SHY: return GUEST;
                default: return VOICE;
            }
        }

        int waits(boolean isLast) {
            int asVoice = wait + back + (isLast ? pause : 0);
            switch (kind) {
                case HOST: return Math.max(1, asVoice - 2);
                case LEAD: return Math.max(1, Math.max(1, asVoice - 2) / 2);
                case GUEST: return asVoice + 3;
                case SHY: return 2 * (asVoice + 3);
                default: return asVoice;
            }
        }

        boolean isReady(int silence, boolean isLast) {
            return kind != QUIET && silence >= waits(isLast);
        }

        int talks() {
            switch (kind) {
                case LEAD: return talk + 5;
                case GUEST:
                case SHY: return talk / 2 + 1;
                case QUIET: return 1;
                default: return talk;
            }
        }

        boolean yields() {
            return kind != HOST && kind != LEAD;
        }

        int worth() {
            switch (kind) {
                case HOST: return talk + 9;
                case LEAD: return 2 * (talk + 9);
                case GUEST: return 99 - talk;
                case SHY: return 99 - talk - 7;
                case QUIET: return 3;
                default: return talk;
            }
        }
    }

    /** THE STUDIO with all that AN IMAGE keeps; thoughts run in one of their own. */
    private static final class Studio {
        final Voice[] voices;
        int many;
        int listeners;
        int cut;
        int fill;
        int silence;
        int silent;
        int longestHole;
        int breaths;
        int taken;
        int crossed;
        int jingles;
        int cuts;
        int last;
        int tenth;
        int z;
        /** TEXTS are only ever put on or cut back to AN IMAGE's, so their number keeps them. */
        int textsMany;
        /** By KEYS: the TEXT that counts, or -1. */
        final int[] counting;
        final Texts texts;

        Studio(Texts all) {
            voices = new Voice[MOST_VOICES];
            for (int i = 0; i < MOST_VOICES; i++) {
                voices[i] = new Voice();
            }
            listeners = 1000;
            cut = 110;
            last = -1;
            z = 1;
            counting = new int[] {-1, -1, -1};
            texts = all;
        }

        void become(Studio other) {
            many = other.many;
            for (int i = 0; i < many; i++) {
                voices[i].become(other.voices[i]);
            }
            listeners = other.listeners;
            cut = other.cut;
            fill = other.fill;
            silence = other.silence;
            silent = other.silent;
            longestHole = other.longestHole;
            breaths = other.breaths;
            taken = other.taken;
            crossed = other.crossed;
            jingles = other.jingles;
            cuts = other.cuts;
            last = other.last;
            tenth = other.tenth;
            z = other.z;
            textsMany = other.textsMany;
            for (int key = OFF; key <= FINE; key++) {
                counting[key] = other.counting[key];
            }
        }

        boolean has(int voice) {
            return voice >= 0 && voice < many;
        }

        boolean hasRoom() {
            return many < MOST_VOICES;
        }

        /** One more VOICE, where there is room: her number. */
        int seat(int kind, int wait, int talk) {
            int number = many;
            Voice her = voices[number];
            her.kind = kind;
            her.wait = wait;
            her.talk = talk;
            her.pause = 0;
            her.left = 0;
            her.back = 0;
            her.said = 0;
            many++;
            return number;
        }

        void seatDrawn() {
            int kind = drawBelow(6);
            int wait = 1 + drawBelow(20);
            int talk = 1 + drawBelow(40);
            seat(kind, wait, talk);
        }

        /** One more TEXT, which counts for its KEY from now on. */
        void addText(int key) {
            if (within(key, OFF, FINE)) {
                counting[key] = textsMany;
                textsMany++;
            }
        }

        /** Whether v is within the bounds of LISTENERS, CUT, FILL (what 0 .. 2). */
        static boolean allows(int what, int v) {
            switch (what) {
                case 0: return within(v, 0, 9999);
                case 1: return within(v, 0, 200);
                case 2: return within(v, 0, 200);
                default: return false;
            }
        }

        /** Puts v into LISTENERS, CUT or FILL (what 0 .. 2): what it was. */
        int put(int what, int v) {
            int was;
            if (what == 0) {
                was = listeners;
                listeners = v;
            } else if (what == 1) {
                was = cut;
                cut = v;
            } else {
                was = fill;
                fill = v;
            }
            return was;
        }

        int speakers() {
            int set = 0;
            for (int i = 0; i < many; i++) {
                if (voices[i].left > 0) {
                    set |= 1 << i;
                }
            }
            return set;
        }

        /** The rest of a draw by n. */
        private int drawBelow(int n) {
            z = z * 1103515245 + 12345;
            return n < 1 ? 0 : (z >>> 8) % n;
        }

        void run(int n) {
            for (int i = 0; i < n; i++) {
                hear();
                goOn();
            }
        }

        /** (1) and (2) of A TENTH. */
        void hear() {
            boolean nobodySpeaks = true;
            for (int i = 0; i < many; i++) {
                Voice her = voices[i];
                if (her.left > 1) {
                    her.left--;
                    nobodySpeaks = false;
                } else if (her.left == 1) {
                    her.left = 0;
                    last = i;
                }
            }
            if (nobodySpeaks) {
                silence++;
                silent++;
                longestHole = Math.max(longestHole, silence);
            } else {
                silence = 0;
            }
        }

        /**
         * (3) and (4) of A TENTH. By (2) SILENCE is 0 just if somebody speaks. And (4) is left to
         * those TENTHS in which nobody is READY: else one speaks by (3), or SILENCE is 0 by it.
         */
        void goOn() {
            if (silence != 0) {
                int ready = whoIsReady();
                if (ready == 0) {
                    bearSilence();
                } else {
                    answerSilence(ready);
                }
            }
            tenth++;
        }

        private int whoIsReady() {
            int ready = 0;
            for (int i = 0; i < many; i++) {
                if (voices[i].isReady(silence, i == last)) {
                    ready |= 1 << i;
                }
            }
            return ready;
        }

        private void answerSilence(int ready) {
            if (Integer.bitCount(ready) > 1) {
                cross(ready);
                return;
            }
            for (int i = 0; i < many; i++) {
                if (ready == 1 << i) {
                    beginAlone(i);
                }
            }
        }

        private void beginAlone(int voice) {
            if (voice == last) {
                breaths++;
            } else {
                taken++;
            }
            begin(voices[voice]);
        }

        private void cross(int ready) {
            boolean allYield = true;
            crossed++;
            for (int i = 0; i < many; i++) {
                if ((ready & (1 << i)) != 0) {
                    Voice her = voices[i];
                    if (her.yields()) {
                        her.back = drawBelow(6);
                    } else {
                        begin(her);
                        allYield = false;
                    }
                }
            }
            if (allYield) {
                silence = 0;
            }
        }

        private void begin(Voice her) {
            her.left = 1 + drawBelow(her.talks());
            her.said++;
            her.back = 0;
        }

        private void bearSilence() {
            if (fill != 0 && silence == fill) {
                listeners = Math.max(0, listeners - jingles);
                jingles++;
                silence = 0;
            } else if (cut != 0 && silence >= cut) {
                listeners /= 2;
                cuts++;
                silence = 0;
            } else {
                listeners -= Math.max(0, Math.min(turningOff(), listeners));
            }
        }

        private int turningOff() {
            int text = counting[OFF];
            return text < 0 ? silence / 20 : texts.give(text, silence, listeners, longestHole);
        }

        /** The least VOICE whose SAID is more than in an earlier state, or -1. */
        int firstWhoSaidMore(Studio earlier) {
            for (int i = 0; i < many && i < earlier.many; i++) {
                if (voices[i].said > earlier.voices[i].said) {
                    return i;
                }
            }
            return -1;
        }
    }

    /** Which choice has the most LISTENERS; of several the first that was weighed. */
    private static final class Best {
        private int choice;
        private int most;

        void clear() {
            choice = 0;
            most = -1;
        }

        void weigh(int another, int listeners) {
            if (listeners > most) {
                choice = another;
                most = listeners;
            }
        }

        int answer(int what) {
            return what == 0 ? choice : most;
        }
    }

    /**
     * A TEXT as a row to be worked out from the left with a stack: a NUMBER as it is; -1, -2, -3
     * for the first, second, third NAME of its KEY; any sign as its byte, negative.
     */
    private static final class Text {
        int key;
        int atoms;
        int size;
        final int[] code = new int[MOST_BYTES];

        void clear() {
            key = -1;
            atoms = 0;
            size = 0;
        }

        void become(Text other) {
            key = other.key;
            atoms = other.atoms;
            size = other.size;
            System.arraycopy(other.code, 0, code, 0, MOST_BYTES);
        }

        void put(int word) {
            if (size < MOST_BYTES) {
                code[size] = word;
                size++;
            }
        }
    }

    /** All TEXTS, and how one is worked out. */
    private static final class Texts {
        final Text[] list;
        private final int[] stack;

        Texts() {
            list = new Text[MOST_TEXTS];
            for (int i = 0; i < MOST_TEXTS; i++) {
                list[i] = new Text();
            }
            stack = new int[MOST_BYTES];
        }

        /** What a TEXT gives, with the numbers that its first, second, third NAME stand for. */
        int give(int text, int first, int second, int third) {
            if (text < 0 || text >= MOST_TEXTS) {
                return 0;
            }
            int[] code = list[text].code;
            int size = list[text].size;
            int top = 0;
            for (int i = 0; i < size; i++) {
                int word = code[i];
                if (word >= -3) {
                    int v = word >= 0 ? word : word == -1 ? first : word == -2 ? second : third;
                    if (top < MOST_BYTES) {
                        stack[top] = v;
                        top++;
                    }
                } else if (word == -'!') {
                    if (top >= 1) {
                        stack[top - 1] = stack[top - 1] == 0 ? 1 : 0;
                    }
                } else if (top >= 2) {
                    top--;
                    stack[top - 1] = join(-word, stack[top - 1], stack[top]);
                }
            }
            return top < 1 ? 0 : stack[0];
        }

        private static int join(int sign, int a, int b) {
            switch (sign) {
                case '|': return a != 0 || b != 0 ? 1 : 0;
                case '&': return a != 0 && b != 0 ? 1 : 0;
                case '<': return a < b ? 1 : 0;
                case '=': return a == b ? 1 : 0;
                case '>': return a > b ? 1 : 0;
                case '+': return a + b;
                case '-': return a - b;
                case '*': return a * b;
                default: return b == 0 ? 0 : a / b;
            }
        }
    }

    /**
     * THE TAPE, and how it is read: word by word, with the signs that still wait for what stands
     * behind them on a stack, so that the first word with which no TEXT goes on is seen at once.
     */
    private static final class Reader {
        private static final int MOST_OPEN = 8;
        private static final int LOOSEST = 1, TEST = 3, TIGHTEST = 6;

        final int[] bytes;
        int length;
        final Text draft;
        private final int[] signs;
        private int signsMany;
        private int brackets;
        private int nots;
        private boolean pieceIsDue;
        private int from;
        private int to;
        private boolean isWord;
        private boolean isGlued;

        Reader() {
            bytes = new int[MOST_BYTES];
            draft = new Text();
            signs = new int[MOST_BYTES];
        }

        /** Four bytes more, the highest first. */
        void append(int v) {
            for (int shift = 24; shift >= 0; shift -= 8) {
                if (length < MOST_BYTES) {
                    bytes[length] = (v >>> shift) & 255;
                    length++;
                }
            }
        }

        /** The place of the FAULT; or -1, and draft is what THE TAPE says. */
        int fault() {
            start();
            for (int i = 0; i < MOST_BYTES; i++) {
                step();
                if (from >= length) {
                    break;
                }
                if (isGlued || !goesOn()) {
                    return from;
                }
            }
            if (draft.key < 0 || pieceIsDue || brackets > 0) {
                return length;
            }
            release(LOOSEST);
            return -1;
        }

        private void start() {
            draft.clear();
            signsMany = 0;
            brackets = 0;
            nots = 0;
            pieceIsDue = true;
            from = 0;
            to = 0;
            isWord = false;
        }

        /** Finds the next word or sign: from its first byte to the one behind it. */
        private void step() {
            int behind = to;
            boolean wasWord = isWord;
            from = behind;
            while (from < length && bytes[from] == ' ') {
                from++;
            }
            to = from;
            while (to < length && isLetter(bytes[to])) {
                to++;
            }
            if (to == from) {
                while (to < length && isDigit(bytes[to])) {
                    to++;
                }
            }
            isWord = to > from;
            isGlued = isWord && wasWord && from == behind;
            if (!isWord) {
                to++;
            }
        }

        private boolean goesOn() {
            if (draft.key < 0) {
                draft.key = keyHere();
                return draft.key >= 0;
            }
            return pieceIsDue ? takesPiece() : takesSign();
        }

        private int keyHere() {
            if (isHere("off")) {
                return OFF;
            }
            if (isHere("fee")) {
                return FEE;
            }
            return isHere("fine") ? FINE : -1;
        }

        private boolean isHere(String word) {
            if (to - from != word.length()) {
                return false;
            }
            for (int i = 0; i < word.length(); i++) {
                if (bytes[from + i] != word.charAt(i)) {
                    return false;
                }
            }
            return true;
        }

        private boolean takesPiece() {
            int first = bytes[from];
            if (isDigit(first)) {
                return takesNumber();
            }
            if (isLetter(first)) {
                return takesName((char) first);
            }
            if (first == '!' && nots < MOST_OPEN) {
                nots++;
                hold(first);
                return true;
            }
            if (first == '(' && brackets < MOST_OPEN) {
                brackets++;
                hold(first);
                return true;
            }
            return false;
        }

        private boolean takesNumber() {
            if (to - from > 4) {
                return false;
            }
            int v = 0;
            for (int i = from; i < to; i++) {
                v = v * 10 + bytes[i] - '0';
            }
            takesAtom(v);
            return true;
        }

        private boolean takesName(char letter) {
            String names = draft.key == OFF ? "slh" : draft.key == FEE ? "sc" : "sl";
            int place = names.indexOf(letter);
            if (to - from != 1 || place < 0) {
                return false;
            }
            takesAtom(-1 - place);
            return true;
        }

        private void takesAtom(int word) {
            draft.put(word);
            draft.atoms++;
            pieceIsDue = false;
        }

        private boolean takesSign() {
            int sign = bytes[from];
            if (sign == ')') {
                return closes();
            }
            int rank = rank(sign);
            if (rank < LOOSEST || rank >= TIGHTEST) {
                return false;
            }
            // A test may not stand right behind another one; all other signs join from the left.
            release(rank == TEST ? TEST + 1 : rank);
            if (rank == TEST && topRank() == TEST) {
                return false;
            }
            hold(sign);
            pieceIsDue = true;
            return true;
        }

        private boolean closes() {
            if (brackets < 1) {
                return false;
            }
            release(LOOSEST);
            brackets--;
            signsMany--;
            return true;
        }

        private void hold(int sign) {
            if (signsMany < MOST_BYTES) {
                signs[signsMany] = sign;
                signsMany++;
            }
        }

        /** The signs on top that bind no looser than a rank come to the draft. */
        private void release(int rank) {
            for (int i = 0; i < MOST_BYTES && topRank() >= rank; i++) {
                signsMany--;
                if (signs[signsMany] == '!') {
                    nots--;
                }
                draft.put(-signs[signsMany]);
            }
        }

        private int topRank() {
            return signsMany < 1 ? 0 : rank(signs[signsMany - 1]);
        }

        /** How tight a sign binds; 0 for ( and for what is no sign of a TEXT. */
        private static int rank(int sign) {
            switch (sign) {
                case '|': return LOOSEST;
                case '&': return 2;
                case '<':
                case '=':
                case '>': return TEST;
                case '+':
                case '-': return 4;
                case '*':
                case '/': return 5;
                case '!': return TIGHTEST;
                default: return 0;
            }
        }

        private static boolean isLetter(int b) {
            return within(b, 'a', 'z');
        }

        private static boolean isDigit(int b) {
            return within(b, '0', '9');
        }
    }

    /** A SHEET, as it stands or in a SLOT; NO NUMBER is held as NONE, which is no place's number. */
    private static final class Sheet {
        int sort = MISSING;
        int size;
        final int[] places = new int[MOST_PLACES];

        void clear(int newSort, int newSize) {
            sort = newSort;
            size = newSize;
            for (int i = 0; i < MOST_PLACES; i++) {
                places[i] = 0;
            }
        }

        void become(Sheet other) {
            sort = other.sort;
            size = other.size;
            System.arraycopy(other.places, 0, places, 0, MOST_PLACES);
        }

        boolean isMissing() {
            return sort == MISSING;
        }

        boolean hasPlace(int place) {
            return place >= 0 && place < size;
        }

        /** Whether there are so many places from one on; of none it may be the end. */
        boolean hasPlaces(int place, int many) {
            return many >= 0 && many <= size && place >= 0 && place <= size - many;
        }

        boolean isNumber(int place) {
            return hasPlace(place) && places[place] != NONE;
        }
    }

    /** A SLOT, with room for each thing that it may hold. */
    private static final class Slot {
        int thing;
        final Voice voice = new Voice();
        final Sheet row = new Sheet();
        int number;

        /** 0 if it holds what is wanted, else NOTHING or KIND. */
        int finding(int wanted) {
            if (thing == HOLDS_NOTHING) {
                return NOTHING;
            }
            return thing == wanted ? 0 : KIND;
        }
    }
}
