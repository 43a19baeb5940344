import java.util.ArrayList;
import java.util.List;
import java.util.Random;

/**
 * Runs of calls by draws, each answer held against a second program that is written from the document alone,
 * in its slowest form: every set of layers is tried, every order, every scene.
 */
public final class ModelTest {
    private static final int RUNS = 3000;
    private static final int CALLS = 512;
    private static int wrong = 0;

    public static void main(String[] args) {
        for (int run = 0; run < RUNS && wrong < 20; run++) {
            new Run(run).go();
        }
        System.out.println(wrong == 0 ? RUNS + " runs are as the model" : wrong + " runs are not as the model");
        if (wrong != 0) {
            System.exit(1);
        }
    }

    private static final class Run {
        final Random random;
        final HandedLens lens = new HandedLens();
        final Model model = new Model();
        final StringBuilder told = new StringBuilder();
        final int number;
        int calls = 0;
        boolean ended = false;

        Run(int number) {
            this.number = number;
            random = new Random(number);
        }

        void go() {
            if (random.nextInt(5) == 0) {
                anyCall();
                anyCall();
            }
            tellText(random.nextInt(3) == 0 ? faultyText() : plainText());
            boolean wild = random.nextInt(4) == 0;
            while (calls < CALLS && !ended) {
                if (random.nextInt(150) == 0) {
                    tellText(random.nextBoolean() ? faultyText() : plainText());
                } else if (wild && random.nextInt(3) == 0) {
                    anyCall();
                } else {
                    likelyCall();
                }
            }
        }

        void due(String call, int got, int want) {
            calls++;
            told.append(call).append(" = ").append(got).append('\n');
            if (got != want && !ended) {
                ended = true;
                wrong++;
                String all = told.toString();
                System.out.println("run " + number + ": " + call + " answered " + got + ", the model " + want + "; the latest calls:\n"
                        + all.substring(Math.max(0, all.length() - 800)));
            }
        }

        void tellText(String text) {
            for (int i = 0; i < text.length() && calls < CALLS; i++) {
                int letter = text.charAt(i);
                due("feed(" + letter + ")", lens.feed(letter), model.feed(letter));
            }
            due("told(3)", lens.told(3), model.told(3));
            due("line() of '" + text + "'", lens.line(), model.line());
            due("fault()", lens.fault(), model.fault());
            for (int what = 0; what < 16; what++) {
                due("told(" + what + ")", lens.told(what), model.told(what));
            }
        }

        String blanks() {
            int n = random.nextInt(12);
            return n == 0 ? " " : n == 1 ? "  " : "";
        }

        String number(int low, int high) {
            int n = low + random.nextInt(Math.max(1, high - low + 1));
            return (random.nextInt(12) == 0 && n < 100 ? "0" : "") + n;
        }

        String plainText() {
            StringBuilder text = new StringBuilder(blanks()).append('c').append(blanks());
            int top = random.nextBoolean() ? 20 : 99;
            text.append(number(1, top)).append(blanks()).append(';');
            int scenes = 0;
            int wearers = 0;
            int wantScenes = random.nextInt(9);
            int wantWearers = random.nextInt(7);
            for (int i = 0; i < 16 && text.length() < 200; i++) {
                if (scenes < wantScenes && (scenes == 0 || random.nextInt(4) > 0)) {
                    text.append(blanks()).append('s').append(blanks()).append(number(0, 3)).append(' ').append(blanks());
                    text.append(number(1, random.nextBoolean() ? 99 : 20)).append(blanks()).append(';');
                    scenes++;
                } else if (wearers < wantWearers && scenes > 0) {
                    text.append(blanks()).append('w').append(blanks()).append(number(0, scenes - 1)).append(blanks());
                    for (int n = random.nextInt(6); n > 0; n--) {
                        text.append(',').append(blanks()).append(number(0, scenes - 1)).append(blanks());
                    }
                    text.append(';');
                    wearers++;
                }
            }
            return text.append(blanks()).toString();
        }

        String faultyText() {
            if (random.nextInt(12) == 0) {
                return random.nextBoolean() ? "" : "   ";
            }
            StringBuilder text = new StringBuilder(plainText());
            String some = "cswCx;;,,0199  \t-\u00ff";
            for (int n = 1 + random.nextInt(3); n > 0; n--) {
                int at = random.nextInt(text.length());
                char letter = some.charAt(random.nextInt(some.length()));
                switch (random.nextInt(4)) {
                    case 0: text.setCharAt(at, letter); break;
                    case 1: text.insert(at, letter); break;
                    case 2: text.insert(at, text.substring(at)); break;
                    default:
                        if (random.nextInt(4) == 0) {
                            text.setLength(at + 1);
                        } else {
                            text.deleteCharAt(at);
                        }
                }
                if (text.length() == 0) {
                    return "";
                }
            }
            if (text.length() > 235) {
                text.setLength(235);
            }
            return text.toString();
        }

        int some(int bound) {
            return random.nextInt(Math.max(1, bound));
        }

        /** Some number within the bounds, or just beyond, or far beyond. */
        int any(int low, int high) {
            switch (random.nextInt(6)) {
                case 0: return low - 1;
                case 1: return high + 1;
                case 2: return low;
                case 3: return high;
                case 4: return random.nextInt();
                default: return low + random.nextInt(high - low + 1);
            }
        }

        void likelyCall() {
            int scenes = model.scenes();
            int wearers = model.wearers();
            int layers = model.layers();
            switch (random.nextInt(36)) {
                case 0: case 1: case 2: case 3: call(9, 1 + some(random.nextInt(4) == 0 ? 30 : 5), 0); break;
                case 4: case 5: case 6: call(10, some(wearers), 0); break;
                case 7: if (random.nextInt(3) == 0) call(11, 0, 0); break;
                case 8: call(12, some(layers), 0); break;
                case 9: case 10: case 11: call(13, some(scenes), 1 + some(random.nextBoolean() ? 99 : 20)); break;
                case 12: case 13: call(14, 1 + some(random.nextInt(4) == 0 ? 30 : 5), 0); break;
                case 14: call(15, 1 + some(random.nextInt(4) == 0 ? 30 : 5), 0); break;
                case 15: call(16, some(scenes), 0); break;
                case 16: call(17, some(61), 0); break;
                case 17: call(18, 1 + some(random.nextBoolean() ? 99 : 10), 0); break;
                case 18: call(19, some(scenes), some(61)); break;
                case 19: case 20: call(20, some(1 << scenes), some(2)); break;
                case 21: call(21, some(layers), some(scenes)); break;
                case 22: call(22, some(1 << wearers), some(2)); break;
                case 23: call(23, some(scenes), 0); break;
                case 24: call(24, some(61), some(101)); break;
                case 25: call(25, some(scenes), some(2)); break;
                case 26: call(26, 0, 0); call(27, 0, 0); break;
                case 27: call(28, some(scenes), random.nextBoolean() ? model.takes(some(scenes)) : some(scenes)); call(29, 0, 0); break;
                case 28: if (random.nextInt(4) == 0) call(30, 0, 0); break;
                case 29: call(31, random.nextInt() & 0x7fffffff, 0); break;
                case 30: if (random.nextInt(3) == 0) call(32, some(2), 0); break;
                case 31: if (random.nextInt(2) == 0) call(33, some(2), 0); break;
                case 32: call(4, some(scenes), some(4)); break;
                case 33: call(5, some(wearers), some(5)); break;
                case 34: call(6, some(layers), some(3)); call(7, some(20), some(4)); break;
                default: call(3, some(16), 0); break;
            }
        }

        void anyCall() {
            int[][] bounds = {{0, 255, 0, 0}, {0, 0, 0, 0}, {0, 0, 0, 0}, {0, 15, 0, 0}, {0, 7, 0, 3}, {0, 5, 0, 4}, {0, 9, 0, 2},
                {0, 19, 0, 3}, {0, 0, 0, 0}, {1, 30, 0, 0}, {0, 5, 0, 0}, {0, 0, 0, 0}, {0, 9, 0, 0}, {0, 7, 1, 99}, {1, 30, 0, 0},
                {1, 30, 0, 0}, {0, 7, 0, 0}, {0, 60, 0, 0}, {1, 99, 0, 0}, {0, 7, 0, 60}, {0, 255, 0, 1}, {0, 9, 0, 7}, {0, 63, 0, 1},
                {0, 7, 0, 0}, {0, 60, 0, 100}, {0, 7, 0, 1}, {0, 0, 0, 0}, {0, 0, 0, 0}, {0, 7, 0, 7}, {0, 0, 0, 0}, {0, 0, 0, 0},
                {0, 1000, 0, 0}, {0, 1, 0, 0}, {0, 1, 0, 0}};
            int which = random.nextInt(bounds.length);
            // A text that is not told whole would lose the line in most runs.
            if ((which == 0 || which == 1) && random.nextInt(10) > 0) {
                which = 2;
            }
            int[] b = bounds[which];
            call(which, any(b[0], b[1]), any(b[2], b[3]));
        }

        void call(int which, int a, int b) {
            if (calls >= CALLS) {
                return;
            }
            String one = "(" + a + ")";
            String two = "(" + a + ", " + b + ")";
            boolean was = (b & 1) == 1;
            switch (which) {
                case 0: due("feed" + one, lens.feed(a), model.feed(a)); break;
                case 1: due("line()", lens.line(), model.line()); break;
                case 2: due("fault()", lens.fault(), model.fault()); break;
                case 3: due("told" + one, lens.told(a), model.told(a)); break;
                case 4: due("scene" + two, lens.scene(a, b), model.scene(a, b)); break;
                case 5: due("wearer" + two, lens.wearer(a, b), model.wearer(a, b)); break;
                case 6: due("layer" + two, lens.layer(a, b), model.layer(a, b)); break;
                case 7: due("logged" + two, lens.logged(a, b), model.logged(a, b)); break;
                case 9: due("year" + one, lens.year(a), model.year(a)); break;
                case 10: due("wear" + one, lens.wear(a), model.wear(a)); break;
                case 11: due("takeOff()", lens.takeOff(), model.takeOff()); break;
                case 12: due("wipe" + one, lens.wipe(a), model.wipe(a)); break;
                case 13: due("chip" + two, lens.chip(a, b), model.chip(a, b)); break;
                case 14: due("drift" + one, lens.drift(a), model.drift(a)); break;
                case 15: due("undo" + one, lens.undo(a), model.undo(a)); break;
                case 16: due("takes" + one, lens.takes(a), model.takes(a)); break;
                case 17: due("dark" + one, lens.dark(a), model.dark(a)); break;
                case 18: due("tooDark" + one, lens.tooDark(a), model.tooDark(a)); break;
                case 19: due("willShow" + two, lens.willShow(a, b), model.willShow(a, b)); break;
                case 20: due("toWipe" + two, lens.toWipe(a, b), model.toWipe(a, b)); break;
                case 21: due("only" + two, lens.only(a, b), model.only(a, b)); break;
                case 22: due("order" + two, lens.order(a, b), model.order(a, b)); break;
                case 23: due("ground" + one, lens.ground(a), model.ground(a)); break;
                case 24: due("mist" + two, lens.mist(a, b), model.mist(a, b)); break;
                case 25: due("meet(" + a + ", " + was + ")", lens.meet(a, was), model.meet(a, was)); break;
                case 26: due("couldBe()", lens.couldBe(), model.couldBe()); break;
                case 27: due("ask()", lens.ask(), model.ask()); break;
                case 28: due("write" + two, lens.write(a, b), model.write(a, b)); break;
                case 29: due("judge()", lens.judge(), model.judge()); break;
                case 30: due("tear()", lens.tear(), model.tear()); break;
                case 31: due("seed" + one, lens.seed(a), model.seed(a)); break;
                case 32: due("keep" + one, lens.keep(a), model.keep(a)); break;
                case 33: due("goBack" + one, lens.goBack(a), model.goBack(a)); break;
                default: break;
            }
        }
    }

    private record Layer(int scene, int wearer, int strength) { }

    private record Scene(int kind, int bright) { }

    private record Word(char sign, String figures, int at) { }

    /** All of section 2. */
    private static final class State {
        List<Layer> layers = new ArrayList<>();
        List<int[]> log = new ArrayList<>();
        int[] had = new int[6];
        int worn = -1;
        int years = 0;

        State copy() {
            State s = new State();
            s.layers.addAll(layers);
            s.log.addAll(log);
            s.had = had.clone();
            s.worn = worn;
            s.years = years;
            return s;
        }
    }

    private static final class Model {
        static final int UNKNOWN = -1000000001, OUTSIDE = -1000000002, NOT = -1000000003, FULL = -1000000004;
        String text = "";
        int clear = 0;
        List<Scene> scenes = new ArrayList<>();
        List<List<Integer>> wearers = new ArrayList<>();
        int faultAt = -1;
        State now = new State();
        List<State> before = new ArrayList<>();
        State[] images = new State[2];
        long[] imageSeeds = new long[2];
        List<int[]> met = new ArrayList<>();
        List<int[]> book = new ArrayList<>();
        long seed = 0;

        int scenes() { return scenes.size(); }

        int wearers() { return wearers.size(); }

        int layers() { return now.layers.size(); }

        int feed(int letter) {
            if (letter < 0 || letter > 255) return OUTSIDE;
            if (text.length() == 240) return FULL;
            text += (char) letter;
            return text.length();
        }

        // Words with their places; a word's sign is '0' for a number, '.' for the end.
        List<Word> words() {
            List<Word> words = new ArrayList<>();
            int i = 0;
            while (i < text.length()) {
                int from = i;
                while (i < text.length() && text.charAt(i) >= '0' && text.charAt(i) <= '9') i++;
                if (i > from) {
                    words.add(new Word('0', text.substring(from, i), from));
                } else {
                    if (text.charAt(i) != ' ') words.add(new Word(text.charAt(i) == '.' ? '?' : text.charAt(i), "", i));
                    i++;
                }
            }
            words.add(new Word('.', "", text.length()));
            return words;
        }

        // The places of a clause: a letter that says what may stand there.
        int line() {
            int newClear = 0;
            List<Scene> newScenes = new ArrayList<>();
            List<List<Integer>> newWearers = new ArrayList<>();
            int fault = 0;
            int at = -1;
            String state = "start";
            int kind = 0;
            for (Word word : words()) {
                char s = word.sign();
                boolean number = s == '0';
                int value = number && word.figures().length() < 4 ? Integer.parseInt(word.figures()) : 5000;
                int f = 0;
                switch (state) {
                    case "start":
                        if (s == '.') break;
                        if (s == 'c') state = "C"; else f = 1;
                        break;
                    case "clause":
                        if (s == '.') break;
                        if (s == 'c') f = 3;
                        else if (s == 's' && newScenes.size() < 8) state = "K";
                        else if (s == 'w' && newWearers.size() < 6) { state = "S"; newWearers.add(new ArrayList<>()); }
                        else f = s == 's' || s == 'w' ? 3 : 1;
                        break;
                    case "C":
                        f = !number ? 1 : value < 1 || value > 99 ? 2 : 0;
                        newClear = value;
                        state = ";";
                        break;
                    case "K":
                        f = !number ? 1 : value > 3 ? 2 : 0;
                        kind = value;
                        state = "B";
                        break;
                    case "B":
                        f = !number ? 1 : value < 1 || value > 99 ? 2 : 0;
                        newScenes.add(new Scene(kind, value));
                        state = ";";
                        break;
                    case "S":
                        f = !number ? 1 : value >= newScenes.size() ? 2 : 0;
                        newWearers.get(newWearers.size() - 1).add(value);
                        state = ",";
                        break;
                    case ",":
                        if (s == ',' && newWearers.get(newWearers.size() - 1).size() < 6) state = "S";
                        else if (s == ';') state = "clause";
                        else f = 1;
                        break;
                    default:
                        if (s == ';') state = "clause"; else f = 1;
                }
                if (f != 0) {
                    fault = f;
                    at = word.at();
                    break;
                }
            }
            text = "";
            faultAt = at;
            if (fault != 0) return -10 - fault;
            clear = newClear;
            scenes = newScenes;
            wearers = newWearers;
            now = new State();
            before.clear();
            images = new State[2];
            met.clear();
            book.clear();
            return scenes.size();
        }

        int fault() { return faultAt; }

        int sum(State s) {
            int sum = 0;
            for (Layer l : s.layers) sum += l.strength();
            return sum;
        }

        int darkOf(State s) { return sum(s) / 10; }

        // As the document tells it: of the layers that are strong enough, the strongest, of like ones the highest.
        int takenIndex(List<Layer> layers, int x, int c) {
            int best = -1;
            for (int k = 0; k < layers.size(); k++) {
                int s = layers.get(k).strength();
                if (s > (c + scenes.get(x).bright()) / 2 && (best < 0 || s >= layers.get(best).strength())) best = k;
            }
            return best;
        }

        int taken(List<Layer> layers, int x, int c) {
            int k = takenIndex(layers, x, c);
            return k < 0 ? x : layers.get(k).scene();
        }

        int taken(int x) { return taken(now.layers, x, clear); }

        int saw(int w) {
            int set = 0;
            for (Layer l : now.layers) if (l.wearer() == w) set |= 1 << l.scene();
            return set;
        }

        int told(int what) {
            if (what < 0 || what > 15) return OUTSIDE;
            if (what == 0) return clear;
            if (what == 1) return scenes.size();
            if (what == 2) return wearers.size();
            if (what == 3) return text.length();
            if (what == 4) return now.years;
            if (what == 5) return now.worn;
            if (what == 6) return now.layers.size();
            if (what == 7) return darkOf(now);
            if (what == 8) {
                int set = 0;
                for (int x = 0; x < scenes.size(); x++) {
                    boolean all = !wearers.isEmpty();
                    for (int w = 0; w < wearers.size(); w++) all &= (saw(w) >> x & 1) == 1;
                    if (all) set |= 1 << x;
                }
                return set;
            }
            if (what == 9) {
                for (int k = 0; k < now.layers.size(); k++) if (now.layers.get(k).wearer() >= 0) return k;
                return -1;
            }
            if (what == 10) {
                int best = -1;
                for (int k = now.layers.size() - 1; k >= 0; k--) {
                    if (best < 0 || now.layers.get(k).strength() > now.layers.get(best).strength()) best = k;
                }
                return best;
            }
            if (what == 11) {
                int most = 0;
                for (int i = 0; i < now.layers.size(); i++) {
                    int j = i;
                    while (j < now.layers.size() && now.layers.get(j).scene() == now.layers.get(i).scene()) j++;
                    most = Math.max(most, j - i);
                }
                return most;
            }
            if (what == 12) return now.log.size();
            if (what == 13) return met.size();
            if (what == 14) return book.size();
            return before.size();
        }

        int scene(int x, int what) {
            if (x < 0 || x >= scenes.size()) return UNKNOWN;
            if (what == 0) return scenes.get(x).kind();
            if (what == 1) return scenes.get(x).bright();
            if (what == 2) return (clear + scenes.get(x).bright()) / 2;
            if (what != 3) return OUTSIDE;
            int set = 0;
            for (int y = 0; y < scenes.size(); y++) if (taken(y) == x) set |= 1 << y;
            return set;
        }

        int wearer(int w, int what) {
            if (w < 0 || w >= wearers.size()) return UNKNOWN;
            if (what == 0) return wearers.get(w).size();
            if (what == 1) return now.had[w];
            if (what == 2) return saw(w);
            if (what == 3) {
                int kin = -1;
                int most = 0;
                for (int v = wearers.size() - 1; v >= 0; v--) {
                    int common = Integer.bitCount(saw(w) & saw(v));
                    if (v != w && common > 0 && common >= most) {
                        most = common;
                        kin = v;
                    }
                }
                return kin;
            }
            if (what == 4) return taken(wearers.get(w).get(now.had[w] % wearers.get(w).size()));
            return OUTSIDE;
        }

        int layer(int k, int what) {
            if (k < 0 || k >= now.layers.size()) return UNKNOWN;
            Layer l = now.layers.get(k);
            return what == 0 ? l.scene() : what == 1 ? l.wearer() : what == 2 ? l.strength() : OUTSIDE;
        }

        int logged(int i, int what) {
            if (what < 0 || what > 3) return OUTSIDE;
            return i < 0 || i >= now.log.size() ? -1 : now.log.get(now.log.size() - 1 - i)[what];
        }

        void deed() {
            before.add(now.copy());
            if (before.size() > 30) before.remove(0);
        }

        void lay(State s, Layer l) {
            if (s.layers.size() == 10) {
                int least = 1000;
                for (Layer o : s.layers) least = Math.min(least, o.strength());
                for (int k = 0; k < 10; k++) {
                    if (s.layers.get(k).strength() == least) {
                        s.layers.remove(k);
                        break;
                    }
                }
            }
            s.layers.add(l);
        }

        void pass(State s) {
            Layer own = null;
            if (s.worn >= 0) {
                List<Integer> looks = wearers.get(s.worn);
                int x = looks.get(s.had[s.worn] % looks.size());
                s.log.add(new int[] {s.years, s.worn, x, taken(s.layers, x, clear)});
                if (s.log.size() > 20) s.log.remove(0);
                int gain = scenes.get(x).bright() / 10 + 1;
                for (int k = 0; k < s.layers.size(); k++) {
                    Layer l = s.layers.get(k);
                    if (l.scene() == x && l.wearer() == s.worn) {
                        own = new Layer(x, s.worn, Math.min(99, l.strength() + gain));
                        s.layers.set(k, own);
                    }
                }
                if (own == null) {
                    own = new Layer(x, s.worn, gain);
                    lay(s, own);
                }
                s.had[s.worn]++;
            }
            List<Layer> left = new ArrayList<>();
            for (Layer l : s.layers) {
                int by = 0;
                int kind = scenes.get(l.scene()).kind();
                if (kind == 0) by = 1;
                if (kind == 1) by = l.strength() / 10 + 1;
                if (kind == 3 && (s.years & 1) != 0) by = 3;
                if (l == own) by = 0;
                if (l.strength() - by > 0) left.add(l == own ? l : new Layer(l.scene(), l.wearer(), l.strength() - by));
            }
            s.layers = left;
            s.years++;
        }

        int noYears(int n) {
            return n < 1 || n > 30 ? OUTSIDE : clear == 0 ? NOT : now.years > 90000 ? FULL : 0;
        }

        int year(int n) {
            int no = noYears(n);
            if (no != 0) return no;
            for (int i = 0; i < n; i++) {
                deed();
                pass(now);
            }
            return now.years;
        }

        int wear(int w) {
            if (w < 0 || w >= wearers.size()) return UNKNOWN;
            if (now.worn == w) return NOT;
            deed();
            int was = now.worn;
            now.worn = w;
            return was;
        }

        int takeOff() {
            if (now.worn < 0) return NOT;
            deed();
            int was = now.worn;
            now.worn = -1;
            return was;
        }

        int wipe(int k) {
            if (k < 0 || k >= now.layers.size()) return UNKNOWN;
            deed();
            now.layers.remove(k);
            return now.layers.size();
        }

        int chip(int x, int n) {
            if (x < 0 || x >= scenes.size()) return UNKNOWN;
            if (n < 1 || n > 99) return OUTSIDE;
            deed();
            lay(now, new Layer(x, -1, n));
            return now.layers.size();
        }

        int draw(int n) {
            seed = (seed * 1103515245L + 12345L) % (1L << 31);
            return (int) (seed / 65536 % n);
        }

        int drift(int n) {
            int no = noYears(n);
            if (no != 0) return no;
            for (int i = 0; i < n; i++) {
                deed();
                int d = draw(8);
                if (d == 0 && wearers.size() > 0) now.worn = draw(wearers.size());
                if (d == 1 && now.layers.size() > 0) now.layers.remove(draw(now.layers.size()));
                if (d == 2 && scenes.size() > 0) {
                    int x = draw(scenes.size());
                    int s = draw(30) + 1;
                    lay(now, new Layer(x, -1, s));
                }
                if (d == 3) now.worn = -1;
                pass(now);
            }
            return now.years;
        }

        int undo(int n) {
            if (n < 1 || n > 30) return OUTSIDE;
            if (n > before.size()) return NOT;
            for (int i = 0; i < n; i++) now = before.remove(before.size() - 1);
            return now.years;
        }

        int takes(int x) { return x < 0 || x >= scenes.size() ? UNKNOWN : taken(x); }

        State later(int n) {
            State s = now.copy();
            for (int i = 0; i < n; i++) pass(s);
            return s;
        }

        int dark(int n) { return n < 0 || n > 60 ? OUTSIDE : darkOf(later(n)); }

        int tooDark(int m) {
            if (m < 1 || m > 99) return OUTSIDE;
            State s = now.copy();
            for (int n = 0; n <= 200; n++) {
                if (darkOf(s) >= m) return n;
                pass(s);
            }
            return -1;
        }

        int willShow(int x, int n) {
            if (x < 0 || x >= scenes.size()) return UNKNOWN;
            if (n < 0 || n > 60) return OUTSIDE;
            int sum = 0;
            for (Layer l : later(n).layers) if (l.scene() == x) sum += l.strength();
            return sum;
        }

        boolean bits(int set, int n) { return set >= 0 && set < 1 << n; }

        List<Layer> without(int wiped) {
            List<Layer> left = new ArrayList<>();
            for (int k = 0; k < now.layers.size(); k++) if ((wiped >> k & 1) == 0) left.add(now.layers.get(k));
            return left;
        }

        int toWipe(int set, int what) {
            if (!bits(set, scenes.size())) return UNKNOWN;
            if (what != 0 && what != 1) return OUTSIDE;
            int best = -1;
            int bestLost = 0;
            for (int wiped = 0; wiped < 1 << now.layers.size(); wiped++) {
                List<Layer> left = without(wiped);
                boolean seen = true;
                for (int x = 0; x < scenes.size(); x++) seen &= (set >> x & 1) == 0 || taken(left, x, clear) == x;
                if (!seen) continue;
                int lost = sum(now);
                for (Layer l : left) lost -= l.strength();
                int fewer = best < 0 ? -1 : Integer.bitCount(wiped) - Integer.bitCount(best);
                if (fewer < 0 || fewer == 0 && lost < bestLost) {
                    best = wiped;
                    bestLost = lost;
                }
            }
            return what == 0 ? Integer.bitCount(best) : best;
        }

        int only(int k, int x) {
            if (k < 0 || k >= now.layers.size() || x < 0 || x >= scenes.size()) return UNKNOWN;
            int best = -1;
            for (int wiped = 0; wiped < 1 << now.layers.size(); wiped++) {
                if ((wiped >> k & 1) == 1) continue;
                int place = k - Integer.bitCount(wiped & (1 << k) - 1);
                if (takenIndex(without(wiped), x, clear) != place) continue;
                if (best < 0 || Integer.bitCount(wiped) < best) best = Integer.bitCount(wiped);
            }
            return best;
        }

        int leastDark;
        int leastFigures;

        void orders(State s, int left, int figures) {
            if (left == 0) {
                if (darkOf(s) < leastDark || darkOf(s) == leastDark && figures < leastFigures) {
                    leastDark = darkOf(s);
                    leastFigures = figures;
                }
                return;
            }
            for (int w = 5; w >= 0; w--) {
                if ((left >> w & 1) == 1) {
                    State t = s.copy();
                    t.worn = w;
                    pass(t);
                    orders(t, left & ~(1 << w), figures * 10 + w + 1);
                }
            }
        }

        int order(int set, int what) {
            if (!bits(set, wearers.size())) return UNKNOWN;
            if (what != 0 && what != 1) return OUTSIDE;
            if (Integer.bitCount(set) < 2 || Integer.bitCount(set) > 5) return NOT;
            leastDark = Integer.MAX_VALUE;
            leastFigures = Integer.MAX_VALUE;
            orders(now, set, 0);
            return what == 0 ? leastDark : leastFigures;
        }

        int ground(int x) {
            if (x < 0 || x >= scenes.size()) return UNKNOWN;
            for (int d = 0; d <= 99; d++) if (taken(now.layers, x, clear + d) == x) return d;
            return -1;
        }

        int mist(int n, int q) {
            if (n < 0 || n > 60 || q < 0 || q > 100) return OUTSIDE;
            java.math.BigInteger v = java.math.BigInteger.valueOf(1000000000);
            for (int i = 0; i < n; i++) v = v.multiply(java.math.BigInteger.valueOf(q)).divide(java.math.BigInteger.valueOf(100));
            return v.intValueExact();
        }

        int meet(int x, boolean was) {
            if (x < 0 || x >= scenes.size()) return UNKNOWN;
            if (met.size() == 6) return FULL;
            met.add(new int[] {x, was ? 1 : 0});
            return met.size();
        }

        int couldBe() {
            int set = 0;
            for (int y = 0; y < scenes.size(); y++) {
                boolean fits = true;
                for (int[] m : met) fits &= (taken(y) == m[0] ? 1 : 0) == m[1];
                if (fits) set |= 1 << y;
            }
            return set;
        }

        int ask() {
            int fitting = couldBe();
            int best = -1;
            int least = 100;
            for (int x = 0; x < scenes.size(); x++) {
                int yes = 0;
                int no = 0;
                for (int y = 0; y < scenes.size(); y++) {
                    if ((fitting >> y & 1) == 1) {
                        if (taken(y) == x) yes++; else no++;
                    }
                }
                if (yes > 0 && no > 0 && Math.max(yes, no) < least) {
                    least = Math.max(yes, no);
                    best = x;
                }
            }
            return best;
        }

        int write(int x, int y) {
            if (x < 0 || x >= scenes.size() || y < 0 || y >= scenes.size()) return UNKNOWN;
            if (book.size() == 20) return FULL;
            book.add(new int[] {x, y});
            return book.size();
        }

        int judge() {
            for (int i = 0; i < book.size(); i++) if (taken(book.get(i)[0]) != book.get(i)[1]) return i;
            return -1;
        }

        int tear() {
            int both = met.size() + book.size();
            met.clear();
            book.clear();
            return both;
        }

        int seed(int v) {
            if (v < 0) return OUTSIDE;
            int was = (int) seed;
            seed = v;
            return was;
        }

        int keep(int i) {
            if (i != 0 && i != 1) return UNKNOWN;
            images[i] = now.copy();
            imageSeeds[i] = seed;
            before.clear();
            return 1;
        }

        int goBack(int i) {
            if (i != 0 && i != 1) return UNKNOWN;
            if (images[i] == null) return NOT;
            now = images[i].copy();
            seed = imageSeeds[i];
            before.clear();
            return 1;
        }
    }
}
