/** Promises 15, 16 and 26 to 34, with what section 3 of the terms says of them: each sentence that names an edge. */
public final class MetEdges {
    private static final int NONE = -1, UNKNOWN = -1000000001, OUTSIDE = -1000000002, NOT = -1000000003, FULL = -1000000004;
    private static final int LEAST = Integer.MIN_VALUE, MOST = Integer.MAX_VALUE;

    private MetEdges() {
    }

    public static void main(String[] args) {
        met();
        couldBe();
        pairAsItIsNow();
        ask();
        askNone();
        book();
        bookIsRefused();
        wrong();
        tear();
        seed();
        draws();
        drawOfWearers();
        drawOfLayers();
        drawOfScenes();
        drawOfTakingOff();
        drawOfNothing();
        nothingToDrawOf();
        drift();
        driftIsRefused();
        undone();
        undoneWithAllFull();
        undoneThirty();
        undoneSince();
        undoneSeedStays();
        undoIsRefused();
        images();
        imagesKeepAll();
        imagesAreRefused();
        Sheet.end();
    }

    private static void met() {
        Sheet.holds("`int meet(int x, boolean was)`: MET: how much. UNKNOWN, FULL (6).");
        Lens x = Lens.of("c2;s2 9;s2 8;");
        x.asks("meet(-1, true)", UNKNOWN).asks("meet(2, false)", UNKNOWN).asks("meet(" + LEAST + ", true)", UNKNOWN).asks("meet(" + MOST + ", true)", UNKNOWN);
        for (int n = 1; n <= 6; n++) {
            x.does("meet(" + n % 2 + ", " + (n % 2 == 0) + ")", n).is("told(13)", n);
        }
        x.asks("meet(0, true)", FULL).asks("meet(1, false)", FULL).asks("meet(2, true)", UNKNOWN).asks("meet(-1, false)", UNKNOWN).is("told(13)", 6);
        Sheet.holds("MET (6 at most):");
        x.is("told(15)", 0).does("tear()", 6).does("meet(1, true)", 1);
        // the same may be met again
        x.does("meet(1, true)", 2).is("told(13)", 2).is("couldBe()", 2);
    }

    private static void couldBe() {
        Sheet.holds("COULD BE: SCENES (a SET) by which all that is MET is so.");
        Lens.of("c2;").asks("couldBe()", 0);
        Sheet.holds("`int couldBe()`: COULD BE.");
        Lens x = Lens.of("c2;s2 9;s2 8;s2 90;s2 7;s2 6;s2 5;s2 4;s2 3;");
        x.asks("couldBe()", 255).does("meet(7, false)", 1).asks("couldBe()", 127).does("meet(0, false)", 2).asks("couldBe()", 126);
        x.does("meet(2, true)", 3).asks("couldBe()", 4).does("meet(2, false)", 4).asks("couldBe()", 0).does("tear()", 4).asks("couldBe()", 255);
        // all but 2, of 90, are taken for 1: of these one has met either 1, or not 1
        x.does("chip(1, 46)", 1).asks("couldBe()", 255).does("meet(1, true)", 1).asks("couldBe()", 251).does("tear()", 1).does("meet(1, false)", 1).asks("couldBe()", 4);
        x.does("tear()", 1).does("meet(0, true)", 1).asks("couldBe()", 0);
        // the sixth that is met counts as the first does
        Lens six = Lens.of("c2;s2 9;s2 8;s2 7;s2 6;s2 5;s2 4;s2 3;s2 2;");
        int left = 255;
        for (int n = 0; n < 6; n++) {
            left &= ~(1 << n);
            six.does("meet(" + n + ", false)", n + 1).asks("couldBe()", left);
        }
        six.asks("ask()", 6);
    }

    private static void pairAsItIsNow() {
        Sheet.holds("one looked at an unknown SCENE with THE PAIR as it is now, and took it for a SCENE, or not for it.");
        Lens x = Lens.of("c2;s2 9;s2 8;s2 90;");
        x.does("meet(1, true)", 1).asks("couldBe()", 2).does("chip(1, 40)", 1).asks("couldBe()", 3).does("chip(1, 50)", 2).asks("couldBe()", 7);
        x.does("undo(1)", 0).asks("couldBe()", 3).does("undo(1)", 0).asks("couldBe()", 2);
    }

    private static void ask() {
        Sheet.holds("ASK: the SCENE by which, as these are TAKEN FOR it or not, they are told apart best: the greater part is least; of like ones the least;");
        Lens x = Lens.of("c2;s2 90;s2 80;s2 10;s2 8;s2 9;s2 70;");
        // each is taken for itself: one and five, by each of them
        x.asks("ask()", 0).does("chip(4, 10)", 1);
        // 2, 3 and 4 are taken for 4, the others for themselves: three and three
        x.asks("ask()", 4).does("meet(4, false)", 1).asks("couldBe()", 35).asks("ask()", 0);
        x.does("meet(0, false)", 2).asks("ask()", 1).does("meet(1, false)", 3).asks("couldBe()", 32).asks("ask()", NONE);
        // four of six are taken for 5: by 5 the greater part is four, by any other five
        Lens most = Lens.of("c2;s2 90;s2 80;s2 10;s2 8;s2 9;s2 11;");
        most.does("chip(5, 20)", 1).asks("scene(5, 3)", 60).asks("ask()", 5);
        // like parts: by 0 one and one, by 1 too, and the least is asked
        Lens two = Lens.of("c2;s2 90;s2 80;");
        two.asks("ask()", 0);
        // a scene that could not be it may part them too: both others are taken for 2
        Lens third = Lens.of("c2;s2 9;s2 80;s2 90;");
        third.does("chip(2, 20)", 1).does("meet(0, false)", 1).asks("couldBe()", 7).asks("ask()", 1);
    }

    private static void askNone() {
        Sheet.holds("NONE: none parts them.");
        Lens.of("c2;").asks("ask()", NONE);
        Sheet.holds("`int ask()`: ASK; NONE.");
        Lens.of("c2;s2 9;").asks("ask()", NONE);
        Lens x = Lens.of("c2;s2 9;s2 8;s2 7;");
        x.does("chip(1, 50)", 1).asks("couldBe()", 7).asks("ask()", NONE).does("meet(1, false)", 1).asks("couldBe()", 0).asks("ask()", NONE);
        x.does("tear()", 1).does("meet(1, true)", 1).asks("ask()", NONE);
    }

    private static void book() {
        Sheet.holds("THE BOOK (20 at most) tells what SCENES are TAKEN FOR: WRONG: the first that is otherwise now; NONE.");
        Lens x = Lens.of("c2;s2 9;s2 8;");
        for (int n = 1; n <= 19; n++) {
            x.does("write(" + n % 2 + ", " + n % 2 + ")", n).is("told(14)", n);
        }
        x.asks("judge()", NONE).does("write(0, 1)", 20).asks("judge()", 19);
        x.asks("write(0, 0)", FULL).asks("write(1, 0)", FULL).is("told(14)", 20).is("told(15)", 0).asks("judge()", 19);
        x.does("tear()", 20).does("write(0, 1)", 1).asks("judge()", 0);
    }

    private static void bookIsRefused() {
        Sheet.holds("An entry behind THE BOOK (a SCENE, what it is TAKEN FOR): how many. UNKNOWN (either), FULL (20).");
        Lens x = Lens.of("c2;s2 9;s2 8;");
        Lens full = x.again();
        for (int n = 1; n <= 20; n++) {
            full.does("write(0, 0)", n);
        }
        for (Lens one : new Lens[] {x, full}) {
            for (int scene : new int[] {-1, 2, 8, LEAST, MOST}) {
                one.asks("write(" + scene + ", 0)", UNKNOWN).asks("write(1, " + scene + ")", UNKNOWN).asks("write(" + scene + ", " + scene + ")", UNKNOWN);
            }
        }
        full.asks("write(1, 1)", FULL);
        // a scene may be taken for itself, and the same may be written again
        x.does("write(1, 1)", 1).does("write(1, 1)", 2).does("write(0, 1)", 3).does("write(1, 0)", 4);
    }

    private static void wrong() {
        Sheet.holds("WRONG: the first that is otherwise now; NONE.");
        Lens.of("c2;").asks("judge()", NONE);
        Sheet.holds("`int judge()`: WRONG; NONE.");
        Lens x = Lens.of("c2;s2 9;s2 8;");
        x.asks("judge()", NONE).calls("write(0, 1)", "write(1, 1)", "write(0, 0)");
        x.asks("judge()", 0).does("chip(1, 5)", 1).asks("judge()", 0).does("chip(1, 6)", 2).asks("judge()", 2).does("wipe(1)", 1).asks("judge()", 0);
        x.does("chip(0, 50)", 2).asks("judge()", 0).does("tear()", 3).asks("judge()", NONE);
    }

    private static void tear() {
        Sheet.holds("`int tear()`: Nothing MET, no BOOK: how much both had.");
        Lens x = Lens.of("c2;s2 9;s2 8;");
        x.does("tear()", 0);
        for (int n = 1; n <= 6; n++) {
            x.does("meet(0, true)", n);
        }
        for (int n = 1; n <= 20; n++) {
            x.does("write(0, 1)", n);
        }
        x.call("chip(0, 5)");
        x.does("tear()", 26).is("told(13)", 0).is("told(14)", 0).is("told(15)", 1).is("told(6)", 1).does("tear()", 0);
        x.is("couldBe()", 3).is("judge()", NONE).does("write(0, 0)", 1).does("tear()", 1).does("meet(0, true)", 1).does("tear()", 1);
    }

    private static void seed() {
        Sheet.holds("`int seed(int v)`: THE SEED becomes v (0 .. 2147483647): what it was. OUTSIDE.");
        Lens x = new Lens();
        x.asks("seed(-1)", OUTSIDE).asks("seed(" + LEAST + ")", OUTSIDE).does("seed(0)", 0).does("seed(" + MOST + ")", 0).asks("seed(-1)", OUTSIDE);
        x.does("seed(1)", MOST).does("seed(0)", 1).does("seed(0)", 0);
        Sheet.holds("THE SEED (0 at first:");
        Lens y = Lens.of("c2;");
        y.does("drift(1)", 1).does("seed(0)", 12345);
    }

    private static int next(int seed) {
        return (int) ((seed * 1103515245L + 12345) % 2147483648L);
    }

    private static int drawn(int seed, int n) {
        return seed / 65536 % n;
    }

    /** A seed whose first draw of 8 is that, and whose second draw of n, and third of m, are these. */
    private static int seedFor(int first, int n, int second, int m, int third) {
        for (int seed = 0; seed < 20000000; seed += 997) {
            int a = next(seed);
            int b = next(a);
            if (drawn(a, 8) == first && drawn(b, n) == second && drawn(next(b), m) == third) {
                return seed;
            }
        }
        throw new IllegalStateException("no such seed");
    }

    private static void draws() {
        Sheet.holds("each DRAW it becomes it times 1103515245 and 12345, left over by 2 to the 31; the DRAW of n is it / 65536, left over by n)");
        // no wearers, scenes, layers: one draw a year
        for (int seed : new int[] {0, 1, 2, 12345, 65535, 65536, 1073741824, MOST - 1, MOST}) {
            Lens x = Lens.of("c2;");
            x.does("seed(" + seed + ")", 0).does("drift(1)", 1).does("seed(" + seed + ")", next(seed));
            x.does("drift(3)", 4).does("seed(0)", next(next(next(seed))));
        }
        // in whole numbers: 2147483647 times 1103515245 and 12345 is 2369780942852710860, and left over by 2147483648 it is 1043980748
        Lens most = Lens.of("c2;");
        most.does("seed(" + MOST + ")", 0).does("drift(1)", 1).does("seed(0)", 1043980748);
    }

    private static Lens drawing(int seed) {
        Lens x = Lens.of("c50;s2 9;s2 8;s2 7;w0;w1;w2;w0;");
        x.calls("wear(1)", "chip(0, 10)", "chip(1, 20)", "chip(2, 30)", "seed(" + seed + ")");
        return x;
    }

    private static void drawOfWearers() {
        Sheet.holds("on 0, if there are WEARERS, it is WORN by a DRAW of these;");
        for (int w = 0; w < 4; w++) {
            int seed = seedFor(0, 4, w, 1, 0);
            Lens x = drawing(seed);
            // 30 is above the half of 50 and 9, so he takes it for the third scene
            x.does("drift(1)", 1).is("told(5)", w).logged(0, 0, w, w % 3, 2).layer(3, w % 3, w, 1).is("wearer(" + w + ", 1)", 1);
            x.does("seed(0)", next(next(seed))).is("told(15)", 5);
        }
    }

    private static void drawOfLayers() {
        Sheet.holds("on 1, if there are LAYERS, a DRAW of these is WIPED;");
        int[][] left = {{20, 30, 1}, {10, 30, 1}, {10, 20, 1}};
        for (int k = 0; k < 3; k++) {
            int seed = seedFor(1, 3, k, 1, 0);
            Lens x = drawing(seed);
            x.does("drift(1)", 1).strengths(left[k]).is("told(5)", 1).does("seed(0)", next(next(seed))).is("told(15)", 5);
        }
    }

    private static void drawOfScenes() {
        Sheet.holds("on 2, if there are SCENES, a DRAW of these is CHIPPED by a DRAW of 30, and 1;");
        for (int scene = 0; scene < 3; scene++) {
            for (int strength : new int[] {1, 2, 15, 29, 30}) {
                int seed = seedFor(2, 3, scene, 30, strength - 1);
                Lens x = drawing(seed);
                x.does("drift(1)", 1).strengths(10, 20, 30, strength, 1).layer(3, scene, NONE, strength).layer(4, 1, 1, 1);
                x.does("seed(0)", next(next(next(seed)))).is("told(15)", 5);
            }
        }
        // it is as any chip: if there are 10, the weakest goes
        int seed = seedFor(2, 3, 1, 30, 4);
        Lens full = Lens.of("c50;s2 9;s2 8;s2 7;");
        for (int n = 11; n <= 20; n++) {
            full.call("chip(0, " + n + ")");
        }
        full.does("seed(" + seed + ")", 0).does("drift(1)", 1).strengths(12, 13, 14, 15, 16, 17, 18, 19, 20, 5).layer(9, 1, NONE, 5);
    }

    private static void drawOfTakingOff() {
        Sheet.holds("on 3 it is TAKEN OFF.");
        int seed = seedFor(3, 1, 0, 1, 0);
        Lens x = drawing(seed);
        x.does("drift(1)", 1).is("told(5)", NONE).strengths(10, 20, 30).is("told(12)", 0).does("seed(0)", next(seed)).is("told(15)", 5);
        // nobody wears it: nothing is taken off, and it is a year all the same
        Lens y = Lens.of("c50;s0 9;w0;");
        y.calls("chip(0, 9)", "seed(" + seed + ")");
        y.does("drift(1)", 1).is("told(5)", NONE).strengths(8).is("told(15)", 2).does("seed(0)", next(seed));
    }

    private static void drawOfNothing() {
        Sheet.holds("ahead of each a DRAW of 8:");
        for (int first = 4; first < 8; first++) {
            int seed = seedFor(first, 1, 0, 1, 0);
            Lens x = drawing(seed);
            x.does("drift(1)", 1).is("told(5)", 1).strengths(10, 20, 30, 1).is("told(12)", 1).does("seed(0)", next(seed)).is("told(15)", 5);
        }
    }

    private static void nothingToDrawOf() {
        for (int first = 0; first < 3; first++) {
            Sheet.holds(first == 0 ? "on 0, if there are WEARERS," : first == 1 ? "on 1, if there are LAYERS," : "on 2, if there are SCENES,");
            int seed = seedFor(first, 1, 0, 1, 0);
            Lens x = Lens.of("c50;");
            x.does("seed(" + seed + ")", 0).does("drift(1)", 1).is("told(5)", NONE).is("told(6)", 0).is("told(15)", 1).does("seed(0)", next(seed));
        }
        // one to draw of is drawn all the same
        int seed = seedFor(0, 1, 0, 1, 0);
        Lens one = Lens.of("c50;s2 9;w0;");
        one.does("seed(" + seed + ")", 0).does("drift(1)", 1).is("told(5)", 0).does("seed(0)", next(next(seed)));
        int chipping = seedFor(2, 1, 0, 30, 7);
        Lens lone = Lens.of("c50;s2 9;");
        lone.does("seed(" + chipping + ")", 0).does("drift(1)", 1).strengths(8).layer(0, 0, NONE, 8).does("seed(0)", next(next(next(chipping))));
        int wiping = seedFor(1, 1, 0, 1, 0);
        Lens last = Lens.of("c50;s2 9;w0;");
        last.calls("chip(0, 9)", "seed(" + wiping + ")");
        last.does("drift(1)", 1).strengths().does("seed(0)", next(next(wiping)));
    }

    private static void drift() {
        Sheet.holds("`int drift(int n)`: n YEARS BY DRAWS (1 .. 30): YEARS. OUTSIDE, NOT: no LINE; FULL: YEARS are above 90000.");
        Lens x = Lens.of("c9;s0 90;s1 80;s3 70;s2 60;w0,1;w2;w3,0;");
        x.calls("year(2)", "seed(4711)");
        Lens y = x.again();
        x.does("drift(30)", 32).is("told(15)", 30);
        for (int i = 1; i <= 30; i++) {
            y.does("drift(1)", 2 + i);
        }
        x.isAs(y, "thirty years by draws at once");
        x.does("seed(3)", y.call("seed(3)")).does("drift(1)", 33);
        for (Lens twin : new Lens[] {x, y}) {
            twin.does("undo(1)", twin == x ? 32 : 31);
        }
    }

    private static void driftIsRefused() {
        Sheet.holds("`int drift(int n)`: n YEARS BY DRAWS (1 .. 30): YEARS. OUTSIDE, NOT: no LINE; FULL: YEARS are above 90000.");
        Lens x = Lens.of("c9;s0 44;w0;");
        x.calls("wear(0)", "year(3)", "seed(8)");
        for (int n : new int[] {0, 31, -1, LEAST, MOST}) {
            x.asks("drift(" + n + ")", OUTSIDE);
        }
        Lens none = new Lens();
        none.call("seed(8)");
        none.asks("drift(1)", NOT).asks("drift(30)", NOT).asks("drift(0)", OUTSIDE).asks("drift(31)", OUTSIDE).does("seed(0)", 8);
    }

    private static void undone() {
        Sheet.holds("UNDONE: the latest deeds (each YEAR, wear(), takeOff(), wipe(), chip(), each YEAR BY DRAWS)");
        String text = "c9;s0 90;s1 80;s3 70;w0,1;w2;";
        String[] deeds = {"wear(0)", "year(1)", "year(1)", "chip(1, 33)", "wear(1)", "year(1)", "takeOff()", "year(1)", "drift(1)", "wipe(0)", "drift(1)"};
        Lens[] after = new Lens[deeds.length + 1];
        after[0] = Lens.of(text);
        after[0].call("seed(77)");
        for (int i = 0; i < deeds.length; i++) {
            after[i + 1] = after[i].again();
            after[i + 1].call(deeds[i]);
            after[i + 1].is("told(15)", i + 1);
        }
        for (int back = 1; back <= deeds.length; back++) {
            Lens x = after[deeds.length].again();
            Lens want = after[deeds.length - back];
            x.does("undo(" + back + ")", want.again().call("told(4)")).isAs(want.again(), back + " undone");
            Lens y = after[deeds.length].again();
            for (int i = 0; i < back; i++) {
                y.call("undo(1)");
            }
            y.isAs(want.again(), back + " undone, one by one");
        }
        // what is no deed is not undone: a text that is being told, what is met, the book
        Lens other = after[3].again();
        other.calls("meet(0, true)", "write(1, 1)", "feed(99)");
        other.is("told(15)", 3).does("undo(3)", 0).is("told(13)", 1).is("told(14)", 1).is("told(3)", 1).does("tear()", 2).is("told(15)", 0);
    }

    private static void undoneWithAllFull() {
        Sheet.holds("all of section 2 is as ahead of them;");
        // ten layers, the tenth of another scene and of the sixth wearer, and a full log
        Lens x = Lens.of("c50;s2 9;s2 8;w0;w0;w0;w0;w0;w1;");
        for (int n = 1; n <= 9; n++) {
            x.call("chip(0, " + (40 + n) + ")");
        }
        x.calls("wear(5)", "year(25)");
        Lens y = x.again();
        x.layer(9, 1, 5, 25).is("told(6)", 10).is("told(12)", 20);
        x.calls("year(2)", "wipe(9)", "chip(0, 60)", "wear(4)", "year(21)");
        x.does("undo(26)", 25).layer(9, 1, 5, 25).is("wearer(5, 1)", 25).is("wearer(4, 1)", 0).is("told(5)", 5);
        for (int i = 0; i < 20; i++) {
            x.logged(i, 24 - i, 5, 1, 0);
        }
        y.does("keep(0)", 1);
        y.calls("year(2)", "wipe(9)", "chip(0, 60)", "wear(4)", "year(21)");
        y.does("goBack(0)", 1).layer(9, 1, 5, 25).is("wearer(5, 1)", 25).is("wearer(4, 1)", 0).is("told(5)", 5);
        for (int i = 0; i < 20; i++) {
            y.logged(i, 24 - i, 5, 1, 0);
        }
    }

    private static void undoneThirty() {
        Sheet.holds("(30 at most are kept): all of section 2 is as ahead of them;");
        Lens x = Lens.of("c9;s2 10;s2 20;w0;");
        x.call("wear(0)");
        x.does("year(29)", 29).is("told(15)", 30).does("year(1)", 30).is("told(15)", 30);
        // the deed of wearing it is no longer kept
        x.does("undo(30)", 0).is("told(5)", 0).is("told(15)", 0).asks("undo(1)", NOT);
        Lens y = Lens.of("c9;s2 10;s2 20;w0;");
        y.call("wear(0)");
        y.does("year(29)", 29).does("undo(30)", 0).is("told(5)", NONE).is("told(15)", 0);
        // round and round: the ring of what is kept begins again
        Lens z = Lens.of("c9;s2 10;s2 20;w0;");
        z.calls("wear(0)", "year(30)", "year(30)", "year(15)");
        z.is("told(15)", 30).does("undo(7)", 68).is("told(15)", 23).does("year(4)", 72).is("told(15)", 27).does("chip(1, 7)", 2).does("year(5)", 77).is("told(15)", 30);
        z.does("undo(5)", 72).is("told(6)", 2).does("undo(1)", 72).is("told(6)", 1).does("undo(24)", 48).is("told(15)", 0).asks("undo(1)", NOT);
        z.is("wearer(0, 1)", 48).is("logged(0, 0)", 47).is("logged(19, 0)", 28).is("told(12)", 20).strengths(96);
    }

    private static void undoneSince() {
        Sheet.holds("since the text or IMAGE");
        Lens x = Lens.of("c9;s2 10;w0;");
        x.calls("wear(0)", "year(3)");
        x.is("told(15)", 4).does("keep(0)", 1).is("told(15)", 0).asks("undo(1)", NOT).does("year(2)", 5).is("told(15)", 2).does("undo(2)", 3);
        x.does("year(2)", 5).does("goBack(0)", 1).is("told(15)", 0).asks("undo(1)", NOT).does("chip(0, 5)", 2).does("undo(1)", 3).asks("undo(1)", NOT);
        // an image that is refused leaves what can be undone
        x.does("year(1)", 4).asks("keep(2)", UNKNOWN).asks("goBack(1)", NOT).asks("goBack(-1)", UNKNOWN).is("told(15)", 1);
        x.feed("c9;s2 10;w0;");
        x.is("told(15)", 1).does("line()", 1).is("told(15)", 0).asks("undo(1)", NOT);
    }

    private static void undoneSeedStays() {
        Sheet.holds("THE SEED stays.");
        Lens x = Lens.of("c9;");
        x.calls("seed(5)", "drift(2)");
        x.does("undo(2)", 0).does("seed(6)", next(next(5)));
        x.does("year(1)", 1).does("seed(7)", 6).does("undo(1)", 0).does("seed(0)", 7);
    }

    private static void undoIsRefused() {
        Sheet.holds("`int undo(int n)`: The n latest (1 .. 30) are undone: YEARS. OUTSIDE, NOT: not so many.");
        Lens none = Lens.of("c9;s2 10;w0;");
        none.asks("undo(1)", NOT).asks("undo(30)", NOT);
        Lens two = Lens.of("c9;s2 10;w0;");
        two.calls("wear(0)", "year(1)");
        Lens thirty = Lens.of("c9;s2 10;w0;");
        thirty.calls("wear(0)", "year(30)");
        for (Lens x : new Lens[] {none, two, thirty}) {
            for (int n : new int[] {0, 31, -1, LEAST, MOST}) {
                x.asks("undo(" + n + ")", OUTSIDE);
            }
        }
        two.asks("undo(3)", NOT).asks("undo(30)", NOT).does("undo(1)", 0).asks("undo(2)", NOT).does("undo(1)", 0).asks("undo(1)", NOT);
        thirty.does("undo(29)", 1).asks("undo(2)", NOT).does("undo(1)", 0).asks("undo(1)", NOT);
    }

    private static void images() {
        Sheet.holds("`int keep(int i)`: IMAGE i becomes what is so (nothing can be undone then): 1. UNKNOWN.");
        Lens x = Lens.of("c9;s2 10;w0;");
        x.calls("wear(0)", "year(3)");
        x.does("keep(0)", 1).does("year(2)", 5).does("keep(1)", 1).does("year(2)", 7);
        Sheet.holds("`int goBack(int i)`: What is so becomes IMAGE i (nothing can be undone then): 1. UNKNOWN, NOT: it was not kept.");
        x.does("goBack(0)", 1).is("told(4)", 3).strengths(6).does("year(1)", 4).does("goBack(1)", 1).is("told(4)", 5).strengths(10);
        // the image stays as it was kept, whatever comes of what is so
        x.calls("wipe(0)", "takeOff()", "year(4)");
        x.does("goBack(1)", 1).is("told(4)", 5).is("told(5)", 0).strengths(10).does("goBack(0)", 1).does("goBack(0)", 1).is("told(4)", 3);
        // kept again: the later one counts, and the other image is as it was
        x.does("year(6)", 9).does("keep(0)", 1).does("goBack(1)", 1).is("told(4)", 5).does("goBack(0)", 1).is("told(4)", 9).strengths(18);
    }

    private static void imagesKeepAll() {
        Sheet.holds("IMAGES 0, 1 keep all of section 2, THE SEED.");
        Lens x = Lens.of("c9;s2 10;s0 50;s1 60;w0,1;w2;");
        x.calls("wear(0)", "year(25)", "chip(2, 70)", "seed(31)", "drift(3)", "keep(1)");
        Lens y = x.again();
        x.calls("wear(1)", "year(30)", "takeOff()", "wipe(0)", "chip(0, 9)", "seed(1)", "keep(0)", "drift(2)");
        x.does("goBack(1)", 1).isAs(y, "gone back");
        x.does("seed(40)", y.call("seed(40)")).does("drift(9)", 37);
        y.does("drift(9)", 37);
        x.isAs(y, "on from the image");
        // what is met and the book are not of section 2
        x.calls("meet(0, true)", "write(1, 1)", "write(1, 2)", "feed(99)");
        x.does("goBack(0)", 1).is("told(13)", 1).is("told(14)", 2).is("told(3)", 1).does("seed(0)", 1);
        // a text makes an end of both, one with a fault does not
        x.feed("?");
        x.does("line()", -11).does("goBack(0)", 1).does("goBack(1)", 1);
        x.feed("c9;");
        x.does("line()", 0).asks("goBack(0)", NOT).asks("goBack(1)", NOT).does("keep(1)", 1).asks("goBack(0)", NOT).does("goBack(1)", 1);
    }

    private static void imagesAreRefused() {
        Sheet.holds("`int goBack(int i)`: What is so becomes IMAGE i (nothing can be undone then): 1. UNKNOWN, NOT: it was not kept.");
        Lens none = Lens.of("c9;s2 10;w0;");
        none.calls("wear(0)", "year(1)");
        none.asks("goBack(0)", NOT).asks("goBack(1)", NOT);
        Lens one = none.again();
        one.calls("keep(1)", "year(1)");
        one.asks("goBack(0)", NOT);
        for (Lens x : new Lens[] {none, one}) {
            for (int i : new int[] {-1, 2, LEAST, MOST}) {
                x.asks("goBack(" + i + ")", UNKNOWN).asks("keep(" + i + ")", UNKNOWN);
            }
        }
        one.does("goBack(1)", 1);
    }
}
