import java.util.ArrayList;
import java.util.List;

/**
 * Every call with every number on either side of its bounds, in a pair that is empty, in one that is full and in some
 * between: what is refused, by which of several reasons, and that what is refused changes nothing.
 */
public final class RefusalEdges {
    private static final int UNKNOWN = -1000000001, OUTSIDE = -1000000002, NOT = -1000000003, FULL = -1000000004;
    private static final int LEAST = Integer.MIN_VALUE, MOST = Integer.MAX_VALUE;
    private static final int BATCH = 40;
    private static final String LONG = "c9;s0 40;s2 50;s3 60;w0,1;w2;";

    private final String name;
    private final Lens lens;
    private final boolean[] kept;
    private final int scenes;
    private final int wearers;
    private final int layers;
    private final int clear;
    private final int letters;
    private final int worn;
    private final int met;
    private final int book;
    private final int undoable;
    private final List<String> refused = new ArrayList<>();

    private RefusalEdges(String name, Lens lens, boolean kept0, boolean kept1) {
        this.name = name;
        this.lens = lens;
        kept = new boolean[] {kept0, kept1};
        Lens twin = lens.again();
        clear = twin.call("told(0)");
        scenes = twin.call("told(1)");
        wearers = twin.call("told(2)");
        letters = twin.call("told(3)");
        worn = twin.call("told(5)");
        layers = twin.call("told(6)");
        met = twin.call("told(13)");
        book = twin.call("told(14)");
        undoable = twin.call("told(15)");
    }

    public static void main(String[] args) {
        new RefusalEdges("no line", new Lens(), false, false).go();
        new RefusalEdges("a pair alone", Lens.of("c9;"), false, false).go();
        new RefusalEdges("some of all", some(), false, true).go();
        new RefusalEdges("all that is full but the text", full(), true, true).go();
        new RefusalEdges("a full text", fullText(), true, false).go();
        new RefusalEdges("eight scenes, six wearers", most(), false, false).go();
        Sheet.end();
    }

    private static Lens some() {
        Lens x = Lens.of(LONG);
        x.calls("wear(0)", "year(3)", "seed(9)", "keep(1)", "chip(1, 77)", "wear(1)", "year(2)", "meet(0, true)", "write(1, 2)", "feed(99)");
        return x;
    }

    private static Lens full() {
        Lens x = Lens.of(LONG);
        x.calls("wear(1)", "year(3)", "keep(0)", "keep(1)", "seed(9)");
        for (int i = 0; i < 10; i++) {
            x.call("chip(1, " + (90 - i) + ")");
        }
        for (int i = 0; i < 6; i++) {
            x.call("meet(1, true)");
        }
        for (int i = 0; i < 20; i++) {
            x.call("write(0, 1)");
        }
        x.calls("wear(0)", "year(20)");
        return x;
    }

    private static Lens fullText() {
        Lens x = Lens.of("c9;s2 9;w0;");
        x.calls("wear(0)", "year(2)", "seed(9)", "keep(0)", "chip(0, 50)");
        x.feed("c8;" + " ".repeat(229) + "s0 1; w0");
        return x;
    }

    private static Lens most() {
        Lens x = Lens.of("c1;s0 1;s1 2;s2 3;s3 4;s0 5;s1 6;s2 7;s3 8;w0;w1;w2;w3;w4;w5,6,7;");
        x.calls("chip(7, 99)", "wear(5)", "year(2)");
        return x;
    }

    private static int[] around(int... bounds) {
        int[] all = new int[bounds.length * 3 + 2];
        int n = 0;
        for (int bound : bounds) {
            all[n++] = bound - 1;
            all[n++] = bound;
            all[n++] = bound + 1;
        }
        all[n++] = LEAST;
        all[n] = MOST;
        return all;
    }

    private static boolean within(int n, int low, int high) {
        return n >= low && n <= high;
    }

    private static boolean bitsOf(int set, int count) {
        return set >= 0 && set < 1 << count;
    }

    /** Of the reasons that hold, the first in the document's order; 0 if none holds. */
    private static int first(boolean unknown, boolean outside, boolean not, boolean full) {
        return unknown ? UNKNOWN : outside ? OUTSIDE : not ? NOT : full ? FULL : 0;
    }

    private void go() {
        Sheet.holds("REFUSALS, of several the first in this order: UNKNOWN (a SCENE, WEARER, LAYER, IMAGE that there is not; bits of such; "
                + "one twice, where two are asked), OUTSIDE (another number out of its bounds), NOT (not now, as told), FULL.");
        line();
        deeds();
        tried();
        sets();
        whatWasMet();
        images();
        Sheet.holds("What is refused changes nothing.");
        for (int from = 0; from < refused.size(); from += BATCH) {
            lens.changeNothing(refused.subList(from, Math.min(refused.size(), from + BATCH)));
        }
    }

    /** The call is refused so; with 0 it is not refused at all. */
    private void weigh(String call, int refusal) {
        int got = lens.again().call(call);
        if (refusal != 0) {
            refused.add(call);
            Sheet.due(name + ": " + call, got, refusal);
        } else {
            Sheet.due(name + ": " + call + " is refused", within(got, FULL, UNKNOWN) ? got : 0, 0);
        }
    }

    private void line() {
        for (int a : around(0, 255)) {
            weigh("feed(" + a + ")", first(false, !within(a, 0, 255), false, letters == 240));
        }
        for (int what : around(0, 15)) {
            weigh("told(" + what + ")", first(false, !within(what, 0, 15), false, false));
        }
        for (int what : around(0, 4)) {
            for (int x : around(0, scenes)) {
                weigh("scene(" + x + ", " + what + ")", first(!within(x, 0, scenes - 1), !within(what, 0, 3), false, false));
            }
            for (int w : around(0, wearers)) {
                weigh("wearer(" + w + ", " + what + ")", first(!within(w, 0, wearers - 1), !within(what, 0, 4), false, false));
            }
            for (int k : around(0, layers)) {
                weigh("layer(" + k + ", " + what + ")", first(!within(k, 0, layers - 1), !within(what, 0, 2), false, false));
            }
            for (int i : around(0, 20)) {
                weigh("logged(" + i + ", " + what + ")", first(false, !within(what, 0, 3), false, false));
            }
        }
    }

    private void deeds() {
        for (int n : around(1, 30)) {
            weigh("year(" + n + ")", first(false, !within(n, 1, 30), clear == 0, false));
            weigh("drift(" + n + ")", first(false, !within(n, 1, 30), clear == 0, false));
            weigh("undo(" + n + ")", first(false, !within(n, 1, 30), n > undoable, false));
        }
        for (int n : around(undoable)) {
            weigh("undo(" + n + ")", first(false, !within(n, 1, 30), n > undoable, false));
        }
        for (int w : around(0, wearers)) {
            weigh("wear(" + w + ")", first(!within(w, 0, wearers - 1), false, w == worn, false));
        }
        weigh("takeOff()", worn < 0 ? NOT : 0);
        for (int k : around(0, layers)) {
            weigh("wipe(" + k + ")", first(!within(k, 0, layers - 1), false, false, false));
        }
        for (int x : around(0, scenes)) {
            for (int n : around(1, 99)) {
                weigh("chip(" + x + ", " + n + ")", first(!within(x, 0, scenes - 1), !within(n, 1, 99), false, false));
            }
        }
    }

    private void tried() {
        for (int n : around(0, 60)) {
            weigh("dark(" + n + ")", first(false, !within(n, 0, 60), false, false));
            for (int q : around(0, 100)) {
                weigh("mist(" + n + ", " + q + ")", first(false, !within(n, 0, 60) || !within(q, 0, 100), false, false));
            }
        }
        for (int m : around(1, 99)) {
            weigh("tooDark(" + m + ")", first(false, !within(m, 1, 99), false, false));
        }
        for (int x : around(0, scenes)) {
            boolean unknown = !within(x, 0, scenes - 1);
            weigh("takes(" + x + ")", first(unknown, false, false, false));
            weigh("ground(" + x + ")", first(unknown, false, false, false));
            for (int n : around(0, 60)) {
                weigh("willShow(" + x + ", " + n + ")", first(unknown, !within(n, 0, 60), false, false));
            }
            for (int k : around(0, layers)) {
                weigh("only(" + k + ", " + x + ")", first(unknown || !within(k, 0, layers - 1), false, false, false));
            }
        }
    }

    private void sets() {
        Sheet.holds("bits of such;");
        for (int what : around(0, 1)) {
            for (int set : around(0, 1 << scenes, 1 << 30)) {
                weigh("toWipe(" + set + ", " + what + ")", first(!bitsOf(set, scenes), !within(what, 0, 1), false, false));
            }
            for (int set : around(0, 3, 1 << wearers, 1 << 30)) {
                boolean not = !within(Integer.bitCount(set), 2, 5);
                weigh("order(" + set + ", " + what + ")", first(!bitsOf(set, wearers), !within(what, 0, 1), not, false));
            }
        }
    }

    private void whatWasMet() {
        for (int x : around(0, scenes)) {
            boolean unknown = !within(x, 0, scenes - 1);
            weigh("meet(" + x + ", true)", first(unknown, false, false, met == 6));
            weigh("meet(" + x + ", false)", first(unknown, false, false, met == 6));
            for (int y : around(0, scenes)) {
                weigh("write(" + x + ", " + y + ")", first(unknown || !within(y, 0, scenes - 1), false, false, book == 20));
            }
        }
        for (String call : new String[] {"couldBe()", "ask()", "judge()", "tear()", "fault()"}) {
            weigh(call, 0);
        }
    }

    private void images() {
        weigh("seed(-1)", OUTSIDE);
        weigh("seed(" + LEAST + ")", OUTSIDE);
        weigh("seed(0)", 0);
        weigh("seed(" + MOST + ")", 0);
        for (int i : around(0, 1)) {
            boolean unknown = !within(i, 0, 1);
            weigh("keep(" + i + ")", first(unknown, false, false, false));
            weigh("goBack(" + i + ")", first(unknown, false, unknown || !kept[i], false));
        }
    }
}
