/**
 * One pair of spectacles, handed down in a line of clockmakers, that keeps in layers what each has seen.
 * The rows that calls work on are made once, with the object, so that no call makes a new one.
 */
public final class HandedLens {
    public static final int NONE = -1, UNKNOWN = -1000000001, OUTSIDE = -1000000002, NOT = -1000000003, FULL = -1000000004;

    private static final int MOST_LETTERS = 240;
    private static final int MOST_SCENES = 8;
    private static final int MOST_WEARERS = 6;
    private static final int MOST_LOOKS = 6;
    private static final int MOST_LAYERS = 10;
    private static final int MOST_LOGGED = 20;
    private static final int LOG_COLUMNS = 4;
    private static final int MOST_DEEDS = 30;
    private static final int MOST_IMAGES = 2;
    private static final int MOST_MET = 6;
    private static final int MOST_ENTRIES = 20;
    private static final int MOST_TURNS = 5;
    private static final int MOST_ORDERS = 120;

    private static final int MOST_KIND = 3;
    private static final int MOST_STRENGTH = 99;
    private static final int MOST_CLEAR = 99;
    private static final int MOST_BRIGHT = 99;
    private static final int MOST_FIGURES = 3;
    private static final int MOST_YEARS_AT_ONCE = 30;
    private static final int LAST_YEAR = 90000;
    private static final int MOST_YEARS_TRIED = 60;
    private static final int MOST_YEARS_TO_DARK = 200;
    private static final int MOST_DARK = 99;
    private static final int MOST_GROUND = 99;
    private static final int BILLION = 1000000000;

    private static final int CANNOT_STAND = 1;
    private static final int BAD_NUMBER = 2;
    private static final int TOO_MANY = 3;

    private final Reader reader = new Reader();
    private final History history = new History();
    private final Image[] images = new Image[MOST_IMAGES];
    private final Pair pair = new Pair();
    private final Pair tried = new Pair();
    private final Turns turns = new Turns();
    private final Met met = new Met();
    private final Book book = new Book();
    private Line line = new Line();
    private Line spare = new Line();
    private int faultAt = NONE;
    private int seed = 0;

    public HandedLens() {
        for (int i = 0; i < MOST_IMAGES; i++) {
            images[i] = new Image();
        }
    }

    // ---- the line

    public int feed(int letter) {
        if (letter < 0 || letter > 255) {
            return OUTSIDE;
        }
        if (reader.length >= MOST_LETTERS) {
            return FULL;
        }
        reader.append(letter);
        return reader.length;
    }

    public int line() {
        int fault = reader.readInto(spare);
        faultAt = reader.faultAt;
        reader.empty();
        if (fault != 0) {
            return -10 - fault;
        }
        Line old = line;
        line = spare;
        spare = old;
        pair.reset();
        history.forget();
        for (int i = 0; i < MOST_IMAGES; i++) {
            images[i].kept = false;
        }
        met.forget();
        book.forget();
        return line.scenes;
    }

    public int fault() {
        return faultAt;
    }

    public int told(int what) {
        switch (what) {
            case 0: return line.clear;
            case 1: return line.scenes;
            case 2: return line.wearers;
            case 3: return reader.length;
            case 4: return pair.years;
            case 5: return pair.worn;
            case 6: return pair.layers;
            case 7: return pair.darkness();
            case 8: return scenesOfAll();
            case 9: return pair.lowestOfWearers();
            case 10: return pair.strongestBut(0);
            case 11: return pair.thickest();
            case 12: return pair.log.size;
            case 13: return met.size;
            case 14: return book.size;
            case 15: return history.size;
            default: return OUTSIDE;
        }
    }

    public int scene(int x, int what) {
        if (!line.hasScene(x)) {
            return UNKNOWN;
        }
        switch (what) {
            case 0: return line.kindOf(x);
            case 1: return line.brightOf(x);
            case 2: return line.veil(x, 0);
            case 3: return scenesTakenFor(x);
            default: return OUTSIDE;
        }
    }

    public int wearer(int w, int what) {
        if (!line.hasWearer(w)) {
            return UNKNOWN;
        }
        switch (what) {
            case 0: return line.looksOf(w);
            case 1: return pair.yearsOf(w);
            case 2: return pair.scenesOf(w);
            case 3: return kinOf(w);
            case 4: return takenNow(line.sceneInYear(w, pair.yearsOf(w)));
            default: return OUTSIDE;
        }
    }

    public int layer(int k, int what) {
        if (!pair.hasLayer(k)) {
            return UNKNOWN;
        }
        switch (what) {
            case 0: return pair.sceneOf[k];
            case 1: return pair.wearerOf[k];
            case 2: return pair.strengthOf[k];
            default: return OUTSIDE;
        }
    }

    public int logged(int i, int what) {
        if (what < 0 || what >= LOG_COLUMNS) {
            return OUTSIDE;
        }
        return pair.log.at(i, what);
    }

    // ---- deeds

    public int year(int n) {
        int refusal = refusalOfYears(n);
        if (refusal != 0) {
            return refusal;
        }
        for (int i = 0; i < n; i++) {
            history.remember(pair);
            pair.passYear(line);
        }
        return pair.years;
    }

    public int wear(int w) {
        if (!line.hasWearer(w)) {
            return UNKNOWN;
        }
        int before = pair.worn;
        if (before == w) {
            return NOT;
        }
        history.remember(pair);
        pair.worn = w;
        return before;
    }

    public int takeOff() {
        int before = pair.worn;
        if (before == NONE) {
            return NOT;
        }
        history.remember(pair);
        pair.worn = NONE;
        return before;
    }

    public int wipe(int k) {
        if (!pair.hasLayer(k)) {
            return UNKNOWN;
        }
        history.remember(pair);
        pair.remove(k);
        return pair.layers;
    }

    public int chip(int x, int n) {
        if (!line.hasScene(x)) {
            return UNKNOWN;
        }
        if (n < 1 || n > MOST_STRENGTH) {
            return OUTSIDE;
        }
        history.remember(pair);
        pair.lay(x, NONE, n);
        return pair.layers;
    }

    public int drift(int n) {
        int refusal = refusalOfYears(n);
        if (refusal != 0) {
            return refusal;
        }
        for (int i = 0; i < n; i++) {
            history.remember(pair);
            doByDraw();
            pair.passYear(line);
        }
        return pair.years;
    }

    public int undo(int n) {
        if (n < 1 || n > MOST_DEEDS) {
            return OUTSIDE;
        }
        if (n > history.size) {
            return NOT;
        }
        history.restore(pair, n);
        return pair.years;
    }

    // ---- tried

    public int takes(int x) {
        if (!line.hasScene(x)) {
            return UNKNOWN;
        }
        return takenNow(x);
    }

    public int dark(int n) {
        if (n < 0 || n > MOST_YEARS_TRIED) {
            return OUTSIDE;
        }
        tryYears(n);
        return tried.darkness();
    }

    public int tooDark(int m) {
        if (m < 1 || m > MOST_DARK) {
            return OUTSIDE;
        }
        tried.copyGlass(pair);
        for (int n = 0; n <= MOST_YEARS_TO_DARK; n++) {
            if (tried.darkness() >= m) {
                return n;
            }
            tried.passYear(line);
        }
        return NONE;
    }

    public int willShow(int x, int n) {
        if (!line.hasScene(x)) {
            return UNKNOWN;
        }
        if (n < 0 || n > MOST_YEARS_TRIED) {
            return OUTSIDE;
        }
        tryYears(n);
        return tried.strengthOfScene(x);
    }

    public int toWipe(int set, int what) {
        if (!isSetOf(set, line.scenes)) {
            return UNKNOWN;
        }
        if (what < 0 || what > 1) {
            return OUTSIDE;
        }
        // The strongest layer alone decides what is seen, and only wiping it brings the next one up:
        // so the fewest are always the strongest ones in turn, and no other set is as small.
        int wiped = 0;
        for (int i = 0; i < MOST_LAYERS && !areSeenWithout(set, wiped); i++) {
            int k = pair.strongestBut(wiped);
            if (k != NONE) {
                wiped |= 1 << k;
            }
        }
        return what == 0 ? Integer.bitCount(wiped) : wiped;
    }

    public int only(int k, int x) {
        if (!pair.hasLayer(k) || !line.hasScene(x)) {
            return UNKNOWN;
        }
        if (pair.strengthOf[k] <= line.veil(x, 0)) {
            return NONE;
        }
        return pair.layersBefore(k);
    }

    public int order(int set, int what) {
        if (!isSetOf(set, line.wearers)) {
            return UNKNOWN;
        }
        if (what < 0 || what > 1) {
            return OUTSIDE;
        }
        int n = Integer.bitCount(set);
        if (n < 2 || n > MOST_TURNS) {
            return NOT;
        }
        turns.begin(set);
        int least = darkBehindTurns();
        int figures = turns.figures();
        for (int i = 1; i < MOST_ORDERS && turns.advance(); i++) {
            int now = darkBehindTurns();
            // Orders come by rising number, so an equal one later is never better.
            if (now < least) {
                least = now;
                figures = turns.figures();
            }
        }
        return what == 0 ? least : figures;
    }

    public int ground(int x) {
        if (!line.hasScene(x)) {
            return UNKNOWN;
        }
        for (int more = 0; more <= MOST_GROUND; more++) {
            if (pair.takenFor(line, x, more, 0) == x) {
                return more;
            }
        }
        return NONE;
    }

    public int mist(int n, int q) {
        if (n < 0 || n > MOST_YEARS_TRIED || q < 0 || q > 100) {
            return OUTSIDE;
        }
        long odds = BILLION;
        for (int i = 0; i < n; i++) {
            odds = odds * q / 100;
        }
        return (int) odds;
    }

    // ---- what was met

    public int meet(int x, boolean was) {
        if (!line.hasScene(x)) {
            return UNKNOWN;
        }
        if (met.size >= MOST_MET) {
            return FULL;
        }
        met.add(x, was);
        return met.size;
    }

    public int couldBe() {
        int set = 0;
        for (int x = 0; x < line.scenes; x++) {
            if (met.fits(takenNow(x))) {
                set |= 1 << x;
            }
        }
        return set;
    }

    public int ask() {
        int fitting = couldBe();
        int all = Integer.bitCount(fitting);
        int best = NONE;
        // A question by which all stay in one part tells nothing, so it must stay below all.
        int least = all;
        for (int x = 0; x < line.scenes; x++) {
            int part = Integer.bitCount(fitting & scenesTakenFor(x));
            int greater = Math.max(part, all - part);
            if (greater < least) {
                least = greater;
                best = x;
            }
        }
        return best;
    }

    public int write(int x, int y) {
        if (!line.hasScene(x) || !line.hasScene(y)) {
            return UNKNOWN;
        }
        if (book.size >= MOST_ENTRIES) {
            return FULL;
        }
        book.add(x, y);
        return book.size;
    }

    public int judge() {
        for (int i = 0; i < book.size && i < MOST_ENTRIES; i++) {
            if (takenNow(book.scenes[i]) != book.takings[i]) {
                return i;
            }
        }
        return NONE;
    }

    public int tear() {
        int both = met.size + book.size;
        met.forget();
        book.forget();
        return both;
    }

    // ---- images

    public int seed(int v) {
        if (v < 0) {
            return OUTSIDE;
        }
        int before = seed;
        seed = v;
        return before;
    }

    public int keep(int i) {
        if (i < 0 || i >= MOST_IMAGES) {
            return UNKNOWN;
        }
        images[i].pair.copyAll(pair);
        images[i].seed = seed;
        images[i].kept = true;
        history.forget();
        return 1;
    }

    public int goBack(int i) {
        if (i < 0 || i >= MOST_IMAGES) {
            return UNKNOWN;
        }
        if (!images[i].kept) {
            return NOT;
        }
        pair.copyAll(images[i].pair);
        seed = images[i].seed;
        history.forget();
        return 1;
    }

    // ---- what the calls share

    private static boolean isSetOf(int set, int count) {
        return set >= 0 && set >> count == 0;
    }

    /** 0 if n years may pass now. */
    private int refusalOfYears(int n) {
        if (n < 1 || n > MOST_YEARS_AT_ONCE) {
            return OUTSIDE;
        }
        if (line.clear == 0) {
            return NOT;
        }
        return pair.years > LAST_YEAR ? FULL : 0;
    }

    private int takenNow(int x) {
        return pair.takenFor(line, x, 0, 0);
    }

    private int scenesTakenFor(int x) {
        int set = 0;
        for (int y = 0; y < line.scenes; y++) {
            if (takenNow(y) == x) {
                set |= 1 << y;
            }
        }
        return set;
    }

    private int scenesOfAll() {
        if (line.wearers == 0) {
            return 0;
        }
        int set = pair.scenesOf(0);
        for (int w = 1; w < line.wearers; w++) {
            set &= pair.scenesOf(w);
        }
        return set;
    }

    private int kinOf(int w) {
        int seen = pair.scenesOf(w);
        int kin = NONE;
        int most = 0;
        for (int other = 0; other < line.wearers; other++) {
            int common = Integer.bitCount(seen & pair.scenesOf(other));
            if (other != w && common > most) {
                most = common;
                kin = other;
            }
        }
        return kin;
    }

    private boolean areSeenWithout(int set, int wiped) {
        for (int x = 0; x < line.scenes; x++) {
            if ((set >> x & 1) == 1 && pair.takenFor(line, x, 0, wiped) != x) {
                return false;
            }
        }
        return true;
    }

    private void tryYears(int n) {
        tried.copyGlass(pair);
        for (int i = 0; i < n; i++) {
            tried.passYear(line);
        }
    }

    private int darkBehindTurns() {
        tried.copyGlass(pair);
        for (int i = 0; i < turns.size && i < MOST_TURNS; i++) {
            tried.worn = turns.row[i];
            tried.passYear(line);
        }
        return tried.darkness();
    }

    private int drawOf(int n) {
        seed = (int) ((seed * 1103515245L + 12345L) % 2147483648L);
        return n > 0 ? seed / 65536 % n : 0;
    }

    private void doByDraw() {
        int drawn = drawOf(8);
        if (drawn == 0 && line.wearers > 0) {
            pair.worn = drawOf(line.wearers);
        } else if (drawn == 1 && pair.layers > 0) {
            pair.remove(drawOf(pair.layers));
        } else if (drawn == 2 && line.scenes > 0) {
            int x = drawOf(line.scenes);
            pair.lay(x, NONE, drawOf(30) + 1);
        } else if (drawn == 3) {
            pair.worn = NONE;
        }
    }

    /** What the text tells: how clear the pair is, the scenes, the wearers. Clear by 0: there is no line. */
    private static final class Line {
        final int[] kinds = new int[MOST_SCENES];
        final int[] brights = new int[MOST_SCENES];
        final int[] lookCounts = new int[MOST_WEARERS];
        final int[][] looks = new int[MOST_WEARERS][MOST_LOOKS];
        int clear = 0;
        int scenes = 0;
        int wearers = 0;

        void forget() {
            clear = 0;
            scenes = 0;
            wearers = 0;
        }

        void addScene(int kind, int bright) {
            if (scenes < MOST_SCENES) {
                kinds[scenes] = kind;
                brights[scenes] = bright;
                scenes++;
            }
        }

        void addWearer() {
            if (wearers < MOST_WEARERS) {
                lookCounts[wearers] = 0;
                wearers++;
            }
        }

        /** The wearer told last looks at that scene too. */
        void addLook(int x) {
            int w = wearers - 1;
            if (hasWearer(w) && lookCounts[w] < MOST_LOOKS) {
                looks[w][lookCounts[w]] = x;
                lookCounts[w]++;
            }
        }

        boolean hasScene(int x) {
            return x >= 0 && x < scenes && x < MOST_SCENES;
        }

        boolean hasWearer(int w) {
            return w >= 0 && w < wearers && w < MOST_WEARERS;
        }

        int kindOf(int x) {
            return hasScene(x) ? kinds[x] : 0;
        }

        int brightOf(int x) {
            return hasScene(x) ? brights[x] : 0;
        }

        int looksOf(int w) {
            return hasWearer(w) ? lookCounts[w] : 0;
        }

        int sceneInYear(int w, int years) {
            int count = looksOf(w);
            if (count < 1 || count > MOST_LOOKS || years < 0) {
                return NONE;
            }
            return looks[w][years % count];
        }

        /** Above this a layer must be strong to be seen before the scene, were the pair clearer by more. */
        int veil(int x, int more) {
            return (clear + more + brightOf(x)) / 2;
        }

        /** What one year in sight of the scene adds to a layer. */
        int gain(int x) {
            return brightOf(x) / 10 + 1;
        }
    }

    /** The text, as it comes, and how it is read. */
    private static final class Reader {
        final int[] text = new int[MOST_LETTERS];
        int length = 0;
        int at = 0;
        int fault = 0;
        int faultAt = NONE;

        void append(int letter) {
            if (length < MOST_LETTERS) {
                text[length] = letter;
                length++;
            }
        }

        void empty() {
            length = 0;
        }

        /** The number of the first fault, 0 for none. */
        int readInto(Line into) {
            into.forget();
            at = 0;
            fault = 0;
            faultAt = NONE;
            skipBlanks();
            for (int i = 0; i <= MOST_LETTERS && fault == 0 && at < length; i++) {
                readClause(into);
                skipBlanks();
            }
            return fault;
        }

        void readClause(Line into) {
            int word = letterHere();
            if (into.clear == 0) {
                if (accept('c', true)) {
                    readClear(into);
                }
            } else if (word == 's') {
                if (accept('s', into.scenes < MOST_SCENES)) {
                    readScene(into);
                }
            } else if (word == 'w') {
                if (accept('w', into.wearers < MOST_WEARERS)) {
                    readWearer(into);
                }
            } else {
                blame(word == 'c' ? TOO_MANY : CANNOT_STAND, at);
            }
        }

        void readClear(Line into) {
            into.clear = readNumber(1, MOST_CLEAR);
            accept(';', true);
        }

        void readScene(Line into) {
            int kind = readNumber(0, MOST_KIND);
            int bright = readNumber(1, MOST_BRIGHT);
            if (accept(';', true)) {
                into.addScene(kind, bright);
            }
        }

        void readWearer(Line into) {
            into.addWearer();
            into.addLook(readNumber(0, into.scenes - 1));
            for (int i = 1; i < MOST_LOOKS && letterHere() == ','; i++) {
                accept(',', true);
                into.addLook(readNumber(0, into.scenes - 1));
            }
            accept(';', true);
        }

        /** The number that stands next; blamed, if it is none within these bounds. */
        int readNumber(int low, int high) {
            if (!isFigure(letterHere())) {
                blame(CANNOT_STAND, at);
                return NONE;
            }
            int first = at;
            int value = 0;
            for (; at < length && at < MOST_LETTERS && isFigure(text[at]); at++) {
                if (at - first < MOST_FIGURES) {
                    value = value * 10 + text[at] - '0';
                }
            }
            if (at - first > MOST_FIGURES || value < low || value > high) {
                blame(BAD_NUMBER, first);
            }
            return value;
        }

        /** Goes past that letter, if it stands next and there is room for what it begins; else it is blamed. */
        boolean accept(int letter, boolean room) {
            if (letterHere() != letter) {
                blame(CANNOT_STAND, at);
            } else if (!room) {
                blame(TOO_MANY, at);
            } else {
                at++;
            }
            return fault == 0;
        }

        /** The next letter that is no blank; NONE at the end. */
        int letterHere() {
            skipBlanks();
            return at < length && at < MOST_LETTERS ? text[at] : NONE;
        }

        void skipBlanks() {
            while (at < length && at < MOST_LETTERS && text[at] == ' ') {
                at++;
            }
        }

        boolean isFigure(int letter) {
            return letter >= '0' && letter <= '9';
        }

        /** The text is read from left to right, so the first blame is the one that counts. */
        void blame(int number, int where) {
            if (fault == 0) {
                fault = number;
                faultAt = where;
            }
        }
    }

    /** The latest years in which somebody looked, in a ring. */
    private static final class Log {
        final int[] rows = new int[MOST_LOGGED * LOG_COLUMNS];
        int first = 0;
        int size = 0;

        void forget() {
            first = 0;
            size = 0;
        }

        void add(int when, int who, int looked, int taken) {
            int row = (first + size) % MOST_LOGGED;
            if (size < MOST_LOGGED) {
                size++;
            } else {
                first = (first + 1) % MOST_LOGGED;
            }
            int cell = row * LOG_COLUMNS;
            rows[cell] = when;
            rows[cell + 1] = who;
            rows[cell + 2] = looked;
            rows[cell + 3] = taken;
        }

        /** 0 is the latest. */
        int at(int i, int column) {
            if (i < 0 || i >= size || column < 0 || column >= LOG_COLUMNS) {
                return NONE;
            }
            return rows[(first + size - 1 - i) % MOST_LOGGED * LOG_COLUMNS + column];
        }

        void copyAll(Log other) {
            first = other.first;
            size = other.size;
            System.arraycopy(other.rows, 0, rows, 0, MOST_LOGGED * LOG_COLUMNS);
        }
    }

    /** The pair as it is: its layers, the lowest first, who wears it, the years, the log. */
    private static final class Pair {
        final int[] sceneOf = new int[MOST_LAYERS];
        final int[] wearerOf = new int[MOST_LAYERS];
        final int[] strengthOf = new int[MOST_LAYERS];
        final int[] worns = new int[MOST_WEARERS];
        final Log log = new Log();
        int layers = 0;
        int worn = NONE;
        int years = 0;

        void reset() {
            for (int w = 0; w < MOST_WEARERS; w++) {
                worns[w] = 0;
            }
            log.forget();
            layers = 0;
            worn = NONE;
            years = 0;
        }

        void copyAll(Pair other) {
            copyGlass(other);
            log.copyAll(other.log);
        }

        /** All but the log, which nobody reads where years are only tried. */
        void copyGlass(Pair other) {
            layers = other.layers;
            worn = other.worn;
            years = other.years;
            System.arraycopy(other.sceneOf, 0, sceneOf, 0, MOST_LAYERS);
            System.arraycopy(other.wearerOf, 0, wearerOf, 0, MOST_LAYERS);
            System.arraycopy(other.strengthOf, 0, strengthOf, 0, MOST_LAYERS);
            System.arraycopy(other.worns, 0, worns, 0, MOST_WEARERS);
        }

        boolean hasLayer(int k) {
            return k >= 0 && k < layers && k < MOST_LAYERS;
        }

        int yearsOf(int w) {
            return w >= 0 && w < MOST_WEARERS ? worns[w] : 0;
        }

        // ---- what is done with it

        void passYear(Line line) {
            int own = NONE;
            if (line.hasWearer(worn)) {
                int x = line.sceneInYear(worn, worns[worn]);
                log.add(years, worn, x, takenFor(line, x, 0, 0));
                own = deepen(x, line.gain(x));
                worns[worn]++;
            }
            fadeBut(own, line);
            years++;
        }

        /** The layer of who wears the pair of that scene gains, or is laid: which it is. */
        int deepen(int x, int gain) {
            int k = find(worn, x);
            if (!hasLayer(k)) {
                lay(x, worn, gain);
                return layers - 1;
            }
            strengthOf[k] = Math.min(MOST_STRENGTH, strengthOf[k] + gain);
            return k;
        }

        void lay(int x, int w, int strength) {
            if (layers >= MOST_LAYERS) {
                remove(weakest());
            }
            if (layers >= 0 && layers < MOST_LAYERS) {
                sceneOf[layers] = x;
                wearerOf[layers] = w;
                strengthOf[layers] = strength;
                layers++;
            }
        }

        void remove(int k) {
            if (!hasLayer(k)) {
                return;
            }
            for (int i = k + 1; i < layers && i < MOST_LAYERS; i++) {
                sceneOf[i - 1] = sceneOf[i];
                wearerOf[i - 1] = wearerOf[i];
                strengthOf[i - 1] = strengthOf[i];
            }
            layers--;
        }

        void fadeBut(int own, Line line) {
            // From the top down, so that what goes moves no layer that is still to fade.
            for (int k = MOST_LAYERS - 1; k >= 0; k--) {
                if (k != own && hasLayer(k)) {
                    strengthOf[k] -= fading(line.kindOf(sceneOf[k]), strengthOf[k]);
                    if (strengthOf[k] <= 0) {
                        remove(k);
                    }
                }
            }
        }

        int fading(int kind, int strength) {
            switch (kind) {
                case 0: return 1;
                case 1: return strength / 10 + 1;
                case 3: return years % 2 == 1 ? 3 : 0;
                default: return 0;
            }
        }

        // ---- what is seen in it

        /** Were the pair clearer by more, and without the layers of a set. */
        int takenFor(Line line, int x, int more, int wiped) {
            int k = strongestBut(wiped);
            // If the strongest layer is not strong enough, no layer is.
            return hasLayer(k) && strengthOf[k] > line.veil(x, more) ? sceneOf[k] : x;
        }

        int strongestBut(int wiped) {
            int best = NONE;
            int most = 0;
            for (int k = 0; k < layers && k < MOST_LAYERS; k++) {
                if ((wiped >> k & 1) == 0 && strengthOf[k] >= most) {
                    most = strengthOf[k];
                    best = k;
                }
            }
            return best;
        }

        int weakest() {
            int best = NONE;
            int least = MOST_STRENGTH + 1;
            for (int k = 0; k < layers && k < MOST_LAYERS; k++) {
                if (strengthOf[k] < least) {
                    least = strengthOf[k];
                    best = k;
                }
            }
            return best;
        }

        /** How many layers are seen sooner than that one: stronger ones, and like ones above it. */
        int layersBefore(int k) {
            if (!hasLayer(k)) {
                return 0;
            }
            int count = 0;
            for (int i = 0; i < layers && i < MOST_LAYERS; i++) {
                if (strengthOf[i] > strengthOf[k] || strengthOf[i] == strengthOf[k] && i > k) {
                    count++;
                }
            }
            return count;
        }

        int find(int w, int x) {
            for (int k = 0; k < layers && k < MOST_LAYERS; k++) {
                if (wearerOf[k] == w && sceneOf[k] == x) {
                    return k;
                }
            }
            return NONE;
        }

        int darkness() {
            int sum = 0;
            for (int k = 0; k < layers && k < MOST_LAYERS; k++) {
                sum += strengthOf[k];
            }
            return sum / 10;
        }

        int strengthOfScene(int x) {
            int sum = 0;
            for (int k = 0; k < layers && k < MOST_LAYERS; k++) {
                if (sceneOf[k] == x) {
                    sum += strengthOf[k];
                }
            }
            return sum;
        }

        int scenesOf(int w) {
            int set = 0;
            for (int k = 0; k < layers && k < MOST_LAYERS; k++) {
                if (wearerOf[k] == w) {
                    set |= 1 << sceneOf[k];
                }
            }
            return set;
        }

        int lowestOfWearers() {
            for (int k = 0; k < layers && k < MOST_LAYERS; k++) {
                if (wearerOf[k] != NONE) {
                    return k;
                }
            }
            return NONE;
        }

        int thickest() {
            int most = 0;
            int run = 0;
            for (int k = 0; k < layers && k < MOST_LAYERS; k++) {
                run = k > 0 && sceneOf[k] == sceneOf[k - 1] ? run + 1 : 1;
                most = Math.max(most, run);
            }
            return most;
        }
    }

    /** The pair as it was ahead of each of the latest deeds, in a ring. */
    private static final class History {
        final Pair[] rows = new Pair[MOST_DEEDS];
        int first = 0;
        int size = 0;

        History() {
            for (int i = 0; i < MOST_DEEDS; i++) {
                rows[i] = new Pair();
            }
        }

        void forget() {
            first = 0;
            size = 0;
        }

        void remember(Pair pair) {
            rows[(first + size) % MOST_DEEDS].copyAll(pair);
            if (size < MOST_DEEDS) {
                size++;
            } else {
                first = (first + 1) % MOST_DEEDS;
            }
        }

        void restore(Pair pair, int n) {
            if (n >= 1 && n <= size) {
                size -= n;
                pair.copyAll(rows[(first + size) % MOST_DEEDS]);
            }
        }
    }

    private static final class Image {
        final Pair pair = new Pair();
        int seed = 0;
        boolean kept = false;
    }

    /** What an unknown scene was taken for, or was not. */
    private static final class Met {
        final int[] scenes = new int[MOST_MET];
        final boolean[] so = new boolean[MOST_MET];
        int size = 0;

        void forget() {
            size = 0;
        }

        void add(int x, boolean was) {
            if (size < MOST_MET) {
                scenes[size] = x;
                so[size] = was;
                size++;
            }
        }

        boolean fits(int taken) {
            for (int i = 0; i < size && i < MOST_MET; i++) {
                if ((taken == scenes[i]) != so[i]) {
                    return false;
                }
            }
            return true;
        }
    }

    private static final class Book {
        final int[] scenes = new int[MOST_ENTRIES];
        final int[] takings = new int[MOST_ENTRIES];
        int size = 0;

        void forget() {
            size = 0;
        }

        void add(int x, int y) {
            if (size < MOST_ENTRIES) {
                scenes[size] = x;
                takings[size] = y;
                size++;
            }
        }
    }

    /** An order of wearers; the orders of one set come by rising number. */
    private static final class Turns {
        final int[] row = new int[MOST_TURNS];
        int size = 0;

        void begin(int set) {
            size = 0;
            for (int w = 0; w < MOST_WEARERS; w++) {
                if ((set >> w & 1) == 1 && size < MOST_TURNS) {
                    row[size] = w;
                    size++;
                }
            }
        }

        int figures() {
            int number = 0;
            for (int i = 0; i < size && i < MOST_TURNS; i++) {
                number = number * 10 + row[i] + 1;
            }
            return number;
        }

        /** To the order with the next greater number; false behind the last. */
        boolean advance() {
            int rise = lastRise();
            if (rise < 0) {
                return false;
            }
            int greater = rise + 1;
            for (int i = rise + 1; i < size && i < MOST_TURNS; i++) {
                if (row[i] > row[rise]) {
                    greater = i;
                }
            }
            swap(rise, greater);
            for (int low = rise + 1, high = size - 1; low < high; low++, high--) {
                swap(low, high);
            }
            return true;
        }

        int lastRise() {
            int rise = NONE;
            for (int i = 0; i + 1 < size && i + 1 < MOST_TURNS; i++) {
                if (row[i] < row[i + 1]) {
                    rise = i;
                }
            }
            return rise;
        }

        void swap(int i, int j) {
            if (i >= 0 && i < MOST_TURNS && j >= 0 && j < MOST_TURNS) {
                int kept = row[i];
                row[i] = row[j];
                row[j] = kept;
            }
        }
    }
}
