/** Promises 17 to 25 and what section 3 of the terms tries from now: each sentence that names an edge. */
public final class TriedEdges {
    private static final int NONE = -1, UNKNOWN = -1000000001, OUTSIDE = -1000000002, NOT = -1000000003;
    private static final int LEAST = Integer.MIN_VALUE, MOST = Integer.MAX_VALUE;
    private static final String EIGHT = "c2;s2 9;s2 8;s2 7;s2 6;s2 5;s2 4;s2 3;s2 2;";

    private TriedEdges() {
    }

    public static void main(String[] args) {
        nothingChanges();
        sets();
        takes();
        dark();
        darkIsRefused();
        tooDark();
        tooDarkWithin200();
        tooDarkIsRefused();
        willShow();
        willShowIsRefused();
        wipe();
        wipeOfLikeOnes();
        wipeAll();
        wipeIsRefused();
        only();
        onlyIsRefused();
        lookFor();
        order();
        orderOfLikeOnes();
        orderByYearsFromNow();
        orderOfFive();
        orderByAllOrders();
        orderIsRefused();
        nextSight();
        saw();
        seenByAll();
        kin();
        eyes();
        strongest();
        thick();
        ground();
        groundIsRefused();
        mist();
        mistIsRefused();
        Sheet.end();
    }

    /** A pair with chips, told as scene and strength in turn. */
    private static Lens chips(String text, int... all) {
        Lens x = Lens.of(text);
        for (int i = 0; i + 1 < all.length; i += 2) {
            x.call("chip(" + all[i] + ", " + all[i + 1] + ")");
        }
        return x;
    }

    private static void nothingChanges() {
        Sheet.holds("TRIED from now, as nothing else is done; nothing changes by it.");
        Lens x = Lens.of("c9;s0 40;s1 50;s3 60;w0,1;w2;");
        x.calls("wear(0)", "year(3)", "seed(5)", "keep(0)", "chip(2, 31)", "wear(1)", "year(2)", "meet(0, true)", "write(1, 2)");
        x.calls("feed(99)", "feed(49)");
        for (String call : new String[] {"dark(0)", "dark(60)", "tooDark(1)", "tooDark(99)", "willShow(0, 60)", "toWipe(7, 0)", "toWipe(7, 1)",
            "only(0, 0)", "only(2, 1)", "order(3, 0)", "order(3, 1)", "ground(1)", "mist(60, 99)", "takes(0)", "couldBe()", "ask()", "judge()",
            "scene(2, 3)", "wearer(0, 3)", "wearer(1, 4)", "told(8)", "told(11)", "logged(0, 3)", "fault()"}) {
            x.asks(call, x.again().call(call));
        }
    }

    private static void sets() {
        Sheet.holds("A SET is a whole number, bit k for k.");
        for (int k = 0; k < 8; k++) {
            Lens x = Lens.of(EIGHT + "w" + k + ";");
            x.does("wear(0)", NONE).does("year(1)", 1).asks("wearer(0, 2)", 1 << k).asks("told(8)", 1 << k).asks("scene(" + k + ", 3)", 1 << k);
            x.does("meet(" + k + ", true)", 1).asks("couldBe()", 1 << k);
        }
        for (int k = 0; k < 10; k++) {
            Lens x = Lens.of(EIGHT);
            for (int i = 0; i < 10; i++) {
                x.call("chip(0, " + (i == k ? 50 : 1) + ")");
            }
            toWipe(x, 2, 1 << k);
        }
    }

    private static void takes() {
        Sheet.holds("TAKES: what a SCENE is TAKEN FOR.");
        chips("c2;s2 9;s2 8;", 1, 50).asks("takes(0)", 1).asks("takes(1)", 1);
        Sheet.holds("`int takes(int x)`: TAKES. UNKNOWN.");
        Lens x = chips("c2;s2 9;s2 8;", 1, 50);
        x.asks("takes(0)", 1).asks("takes(1)", 1);
        for (int scene : new int[] {-1, 2, 8, LEAST, MOST}) {
            x.asks("takes(" + scene + ")", UNKNOWN);
        }
        chips(EIGHT, 0, 50).asks("takes(7)", 0).asks("takes(8)", UNKNOWN);
    }

    private static void dark() {
        Sheet.holds("DARK: a tenth of all STRENGTHS together (cut), behind n YEARS (0 .. 60).");
        chips("c2;s2 9;").asks("dark(0)", 0).asks("dark(60)", 0);
        chips("c2;s2 9;", 0, 9).asks("dark(0)", 0).asks("told(7)", 0);
        chips("c2;s2 9;", 0, 10).asks("dark(0)", 1).asks("told(7)", 1);
        chips("c2;s2 9;", 0, 19).asks("dark(0)", 1);
        // together, not each by itself
        chips("c2;s2 9;", 0, 5, 0, 5).asks("dark(0)", 1).asks("told(7)", 1);
        chips("c2;s2 9;", 0, 9, 0, 9, 0, 9).asks("dark(0)", 2);
        Lens most = chips("c2;s2 9;", 0, 99, 0, 99, 0, 99, 0, 99, 0, 99, 0, 99, 0, 99, 0, 99, 0, 99, 0, 99);
        most.asks("dark(0)", 99).asks("dark(60)", 99).asks("told(7)", 99);
        Lens fading = chips("c2;s0 9;", 0, 79);
        fading.asks("dark(0)", 7).asks("dark(1)", 7).asks("dark(9)", 7).asks("dark(10)", 6).asks("dark(59)", 2).asks("dark(60)", 1);
        // who wears it goes on looking, by his years
        Lens worn = Lens.of("c2;s2 39;s2 9;w0,1;");
        worn.does("wear(0)", NONE).asks("dark(2)", 0).asks("dark(3)", 0).asks("dark(4)", 1).asks("dark(60)", 12).does("year(1)", 1).asks("dark(3)", 1);
    }

    private static void darkIsRefused() {
        Sheet.holds("`int dark(int n)`: DARK. OUTSIDE.");
        for (Lens x : new Lens[] {new Lens(), chips("c2;s2 9;", 0, 50)}) {
            for (int n : new int[] {-1, 61, LEAST, MOST}) {
                x.asks("dark(" + n + ")", OUTSIDE);
            }
        }
    }

    private static void tooDark() {
        Sheet.holds("TOO DARK: behind how many YEARS (0 .. 200) DARK is m (1 .. 99) or more; NONE.");
        Lens most = chips("c2;s2 9;", 0, 99, 0, 99, 0, 99, 0, 99, 0, 99, 0, 99, 0, 99, 0, 99, 0, 99, 0, 99);
        most.asks("tooDark(1)", 0).asks("tooDark(98)", 0).asks("tooDark(99)", 0);
        Lens just = chips("c2;s2 9;", 0, 20);
        just.asks("tooDark(1)", 0).asks("tooDark(2)", 0).asks("tooDark(3)", NONE).asks("tooDark(99)", NONE);
        // fading only: it is never darker than now
        chips("c2;s0 9;", 0, 29).asks("tooDark(2)", 0).asks("tooDark(3)", NONE);
        // the first such year counts: it comes to 10 behind three years, and is darker by and by
        Lens worn = Lens.of("c2;s2 39;w0;");
        worn.does("wear(0)", NONE).asks("tooDark(1)", 3).asks("tooDark(2)", 5).asks("tooDark(9)", 23).asks("tooDark(10)", NONE);
        // it is dark for a while only: 10 behind one year, then fading in all others
        Lens once = Lens.of("c2;s3 99;s0 1;w0,1,1,1,1,1;");
        once.does("wear(0)", NONE).asks("tooDark(1)", 1);
        Lens none = new Lens();
        none.asks("tooDark(1)", NONE);
    }

    private static void tooDarkWithin200() {
        Sheet.holds("behind how many YEARS (0 .. 200)");
        // one stronger each year by his looks, and the chip: 210 behind 200 years with 10, behind 201 with 9
        String text = "c10;s2 1;s2 1;s2 1;s2 1;w0,1,2,3;";
        Lens at199 = chips(text, 0, 11);
        at199.does("wear(0)", NONE).asks("tooDark(21)", 199);
        Lens at200 = chips(text, 0, 10);
        at200.does("wear(0)", NONE).asks("tooDark(21)", 200).asks("tooDark(22)", NONE);
        Lens at201 = chips(text, 0, 9);
        at201.does("wear(0)", NONE).asks("tooDark(21)", NONE).asks("tooDark(20)", 191);
    }

    private static void tooDarkIsRefused() {
        Sheet.holds("`int tooDark(int m)`: TOO DARK; NONE. OUTSIDE.");
        for (Lens x : new Lens[] {new Lens(), chips("c2;s2 9;", 0, 50)}) {
            for (int m : new int[] {0, 100, -1, LEAST, MOST}) {
                x.asks("tooDark(" + m + ")", OUTSIDE);
            }
        }
    }

    private static void willShow() {
        Sheet.holds("WILL SHOW: STRENGTH of all LAYERS of a SCENE together behind n YEARS (0 .. 60).");
        Lens x = Lens.of("c2;s0 39;s2 9;s2 8;w0,1;w0;");
        x.calls("chip(0, 70)", "chip(1, 7)", "wear(1)", "year(1)", "chip(0, 3)");
        // of scene 0: a chip of 69, 4 of the second one, a chip of 3
        x.asks("willShow(0, 0)", 76).asks("willShow(1, 0)", 7).asks("willShow(2, 0)", 0).asks("willShow(2, 60)", 0);
        x.asks("willShow(0, 1)", 78).asks("willShow(1, 60)", 7);
        x.does("takeOff()", 1).asks("willShow(0, 1)", 73).asks("willShow(0, 3)", 67).asks("willShow(0, 4)", 65).asks("willShow(0, 59)", 10).asks("willShow(0, 60)", 9);
        // all ten
        chips("c2;s2 9;s2 8;", 0, 1, 1, 2, 0, 3, 1, 4, 0, 5, 1, 6, 0, 7, 1, 8, 0, 9, 1, 10).asks("willShow(0, 0)", 25).asks("willShow(1, 60)", 30);
        x.does("wear(0)", NONE).asks("willShow(1, 2)", 8).asks("willShow(1, 3)", 8).asks("willShow(1, 4)", 9).asks("willShow(1, 60)", 37);
    }

    private static void willShowIsRefused() {
        Sheet.holds("`int willShow(int x, int n)`: WILL SHOW. UNKNOWN, OUTSIDE.");
        Lens x = chips("c2;s2 9;s2 8;", 0, 50);
        for (int n : new int[] {-1, 61, LEAST, MOST}) {
            x.asks("willShow(0, " + n + ")", OUTSIDE).asks("willShow(2, " + n + ")", UNKNOWN).asks("willShow(-1, " + n + ")", UNKNOWN);
        }
        for (int scene : new int[] {-1, 2, LEAST, MOST}) {
            x.asks("willShow(" + scene + ", 0)", UNKNOWN).asks("willShow(" + scene + ", 60)", UNKNOWN);
        }
    }

    private static void toWipe(Lens x, int set, int which) {
        x.asks("toWipe(" + set + ", 0)", Integer.bitCount(which)).asks("toWipe(" + set + ", 1)", which);
    }

    private static void wipe() {
        Sheet.holds("WIPE: the fewest LAYERS to be WIPED so that all SCENES of a SET are TAKEN FOR themselves: how many; which");
        Lens x = chips("c2;s2 9;s2 8;s2 90;", 0, 50, 1, 60);
        toWipe(x, 0, 0);
        // 0 is seen by its own layer, once that of 1 is gone; 1 by its own now; both only through none
        toWipe(x, 1, 2);
        toWipe(x, 2, 0);
        toWipe(x, 3, 3);
        // 2 and 90 have 46 as their half: both are above
        toWipe(x, 4, 3);
        toWipe(x, 5, 3);
        toWipe(x, 7, 3);
        Lens y = chips("c2;s2 9;s2 8;s2 90;", 0, 46, 2, 47, 0, 5, 1, 6);
        // 46 is not above 46; 5 is not above 5, 6 is above 5
        toWipe(y, 4, 0);
        toWipe(y, 1, 2);
        toWipe(y, 2, 3);
        toWipe(y, 6, 3);
        toWipe(y, 3, 11);
        toWipe(y, 7, 11);
        // weak ones stay, wherever they lie
        Lens weak = chips("c20;s2 30;s2 20;", 1, 25, 1, 26, 1, 25, 1, 27, 1, 3);
        toWipe(weak, 1, 10);
        toWipe(weak, 2, 0);
        toWipe(weak, 3, 10);
    }

    private static void wipeOfLikeOnes() {
        Sheet.holds("(a SET of LAYERS; fewest, of these the one that loses least STRENGTH, of like ones the least SET)");
        // like strengths: the highest is seen, so that one goes first, and the one below is seen then
        Lens x = chips("c2;s2 9;s2 8;s2 7;", 0, 50, 1, 50, 2, 50);
        toWipe(x, 4, 0);
        toWipe(x, 2, 4);
        toWipe(x, 1, 6);
        toWipe(x, 3, 7);
        toWipe(x, 6, 7);
        Lens y = chips("c2;s2 9;s2 8;", 1, 50, 0, 50, 1, 50, 0, 49);
        toWipe(y, 2, 0);
        toWipe(y, 1, 4);
    }

    private static void wipeAll() {
        Sheet.holds("WIPE: the fewest LAYERS to be WIPED");
        Lens x = chips(EIGHT, 0, 50, 1, 51, 2, 52, 3, 53, 4, 54, 5, 55, 6, 56, 7, 57, 0, 58, 1, 59);
        toWipe(x, 255, 1023);
        toWipe(x, 2, 0);
        toWipe(x, 1, 512);
        toWipe(x, 4, 1023 - 7);
        toWipe(x, 128, 512 + 256);
        toWipe(Lens.of(EIGHT), 255, 0);
    }

    private static void wipeIsRefused() {
        Sheet.holds("`int toWipe(int set, int what)`: WIPE: what = 0 how many, 1 which. UNKNOWN, OUTSIDE.");
        Lens x = chips("c2;s2 9;s2 8;", 0, 50);
        x.asks("toWipe(3, 0)", 1);
        for (int set : new int[] {4, 5, 7, 256, -1, LEAST, MOST}) {
            x.asks("toWipe(" + set + ", 0)", UNKNOWN).asks("toWipe(" + set + ", 1)", UNKNOWN).asks("toWipe(" + set + ", 2)", UNKNOWN);
        }
        for (int what : new int[] {-1, 2, LEAST, MOST}) {
            x.asks("toWipe(3, " + what + ")", OUTSIDE).asks("toWipe(0, " + what + ")", OUTSIDE);
        }
        Lens eight = chips(EIGHT, 0, 50);
        eight.asks("toWipe(255, 0)", 1).asks("toWipe(256, 0)", UNKNOWN).asks("toWipe(257, 0)", UNKNOWN);
        Lens bare = Lens.of("c1;");
        bare.asks("toWipe(0, 0)", 0).asks("toWipe(1, 0)", UNKNOWN).asks("toWipe(0, 2)", OUTSIDE).asks("toWipe(1, 2)", UNKNOWN);
    }

    private static void only() {
        Sheet.holds("ONLY: the fewest LAYERS to be WIPED so that a LAYER is what a SCENE is TAKEN FOR (its own is the strongest, as told): "
                + "how many; NONE: it is not strong enough.");
        // of like ones the highest: those of 30 above it are ahead of it, those below are not
        Lens x = chips("c10;s2 30;s2 20;s2 10;", 0, 30, 1, 20, 0, 30, 2, 40, 0, 30, 1, 21);
        x.asks("only(3, 0)", 0).asks("only(4, 0)", 1).asks("only(2, 0)", 2).asks("only(0, 0)", 3);
        // 21 is above 20, the half of 10 and 30, and 20 is not; both are above 15
        x.asks("only(5, 0)", 4).asks("only(1, 0)", NONE).asks("only(1, 1)", 5).asks("only(5, 1)", 4);
        // its own scene too is seen through that layer only if it is strong enough
        Lens own = chips("c10;s2 30;", 0, 20);
        own.asks("only(0, 0)", NONE).does("chip(0, 21)", 2).asks("only(1, 0)", 0).asks("only(0, 0)", NONE);
        // 10 and 21 have 15 as their half when cut
        Lens cut = chips("c10;s2 30;s2 21;", 0, 15, 0, 16);
        cut.asks("only(0, 1)", NONE).asks("only(1, 1)", 0);
        Lens ten = chips("c2;s2 9;", 0, 50, 0, 50, 0, 50, 0, 50, 0, 50, 0, 50, 0, 50, 0, 50, 0, 50, 0, 50);
        ten.asks("only(0, 0)", 9).asks("only(9, 0)", 0).asks("only(5, 0)", 4);
    }

    private static void onlyIsRefused() {
        Sheet.holds("`int only(int k, int x)`: ONLY; NONE. UNKNOWN.");
        Lens x = chips("c2;s2 9;s2 8;", 0, 50, 1, 2, 0, 60);
        x.asks("only(2, 1)", 0);
        for (int k : new int[] {-1, 3, 10, LEAST, MOST}) {
            x.asks("only(" + k + ", 0)", UNKNOWN).asks("only(" + k + ", 2)", UNKNOWN);
        }
        for (int scene : new int[] {-1, 2, 8, LEAST, MOST}) {
            // 1 is not strong enough for any: of two the refusal is answered
            x.asks("only(0, " + scene + ")", UNKNOWN).asks("only(1, " + scene + ")", UNKNOWN);
        }
    }

    private static void lookFor() {
        Sheet.holds("LOOK FOR: SCENES (a SET) that are TAKEN FOR a SCENE now.");
        Lens x = Lens.of("c2;s2 9;s2 8;s2 90;");
        x.asks("scene(0, 3)", 1).asks("scene(1, 3)", 2).asks("scene(2, 3)", 4);
        x.does("chip(1, 46)", 1).asks("scene(0, 3)", 0).asks("scene(1, 3)", 3).asks("scene(2, 3)", 4);
        x.does("chip(1, 47)", 2).asks("scene(0, 3)", 0).asks("scene(1, 3)", 7).asks("scene(2, 3)", 0);
        chips(EIGHT, 7, 99).asks("scene(7, 3)", 255).asks("scene(6, 3)", 0);
    }

    private static void order() {
        Sheet.holds("by which DARK behind them is least: how much; the figures (the first one's first, each 1 more than the WEARER; "
                + "of like ones the least number).");
        // Kind 1: 10 fades by 2 to 8 if it comes first; kind 2: 10 stays. 18 and 20 are apart when cut.
        Lens x = Lens.of("c2;s1 99;s2 99;w1;w0;");
        x.asks("order(3, 0)", 1).asks("order(3, 1)", 21);
        Lens y = Lens.of("c2;s1 99;s2 99;w0;w1;");
        y.asks("order(3, 0)", 1).asks("order(3, 1)", 12);
        // the last ones of six
        Lens six = Lens.of("c2;s1 99;s2 99;w0;w0;w0;w0;w1;w0;");
        six.asks("order(48, 0)", 1).asks("order(48, 1)", 65);
    }

    private static void orderOfLikeOnes() {
        Sheet.holds("of like ones the least number)");
        Lens x = Lens.of("c2;s2 9;w0;w0;w0;w0;w0;w0;");
        x.asks("order(3, 1)", 12).asks("order(48, 1)", 56).asks("order(33, 1)", 16).asks("order(31, 1)", 12345).asks("order(62, 1)", 23456);
        x.asks("order(47, 1)", 12346).asks("order(31, 0)", 0);
        // 16 and 19 are both 1 when cut: DARK is like, so 12, though the strengths are less by 21
        Lens cut = Lens.of("c2;s2 99;s1 80;w0;w1;");
        cut.asks("order(3, 0)", 1).asks("order(3, 1)", 12);
    }

    private static void orderByYearsFromNow() {
        Sheet.holds("each for one YEAR, one behind the other from now on,");
        // Kind 3 fades by 3 in an odd year: laid in the even one ahead of it, 10 is 7.
        Lens x = Lens.of("c2;s3 99;s2 99;w1;w0;");
        x.asks("order(3, 0)", 1).asks("order(3, 1)", 21);
        // a year later both orders have 20
        x.does("year(1)", 1).asks("order(3, 0)", 2).asks("order(3, 1)", 12);
        // each looks by his own years: the second look of the first one is at a scene of 1
        Lens y = Lens.of("c2;s2 99;s0 1;w0,1;w0;");
        y.asks("order(3, 0)", 2).does("wear(0)", NONE).does("year(1)", 1).does("takeOff()", 0);
        y.asks("order(3, 0)", 2).asks("order(3, 1)", 12).does("chip(0, 9)", 2).asks("order(3, 0)", 2).does("chip(1, 2)", 3).asks("order(3, 0)", 2).asks("order(3, 1)", 12);
        // who wears it now has no part in it, if he is not of the set
        Lens worn = Lens.of("c2;s2 99;w0;w0;w0;");
        worn.does("wear(2)", NONE).asks("order(3, 0)", 2).asks("told(5)", 2).asks("wearer(2, 1)", 0);
        // of six, two: those that are not told have no year
        worn.asks("order(7, 0)", 3);
    }

    private static void orderOfFive() {
        Sheet.holds("the order of WEARERS of a SET (two to five of them)");
        Lens x = Lens.of("c2;s1 99;s2 10;s2 10;s2 10;s2 10;w1;w2;w3;w4;w0;");
        // The fifth one's 10 fades to 8, 7, 6, 5, the others' 2 stay: 13 if he is first, 14, 15, 16, or 18 if he is last, all 1 when cut.
        x.asks("order(31, 0)", 1).asks("order(31, 1)", 12345).does("chip(1, 6)", 1);
        // with 6 more: 19 if he is first, 20 and more else
        x.asks("order(31, 0)", 1).asks("order(31, 1)", 51234);
        x.does("chip(1, 1)", 2).asks("order(31, 0)", 2).asks("order(31, 1)", 12345);
        // of three, with 7 more: 18 if he is first, 19 if he is the second, 21 if he is last; 354 is less than 534
        x.asks("order(28, 0)", 1).asks("order(28, 1)", 354);
    }

    /** Each order is done on a twin, with wear() and year(1): none may be less dark behind it than the one that is told. */
    private static void orderByAllOrders() {
        Sheet.holds("by which DARK behind them is least:");
        Lens x = Lens.of("c9;s0 99;s3 14;s3 50;s2 16;s1 30;w3;w4,1;w1;w0,2;w2;w4;");
        // A small set behind a great one, and low wearers behind high ones: nothing of an earlier question is left.
        int[] sets = {31, 59, 62, 15, 30, 21, 56, 3, 7, 38, 20, 33};
        for (String deed : new String[] {"chip(0, 1)", "year(1)", "wear(3)", "year(1)", "chip(4, 33)", "chip(2, 12)"}) {
            x.call(deed);
            for (int set : sets) {
                int[] best = {Integer.MAX_VALUE, 0};
                everyOrder(x, set, 0, "", best);
                x.is("order(" + set + ", 0)", best[0]).is("order(" + set + ", 1)", best[1]);
            }
        }
        // only by the last of all orders the strong one of kind 3 goes in two odd years
        Lens last = chips("c10;s0 99;s3 14;s3 50;s2 16;s1 3;w3;w4;w1;w0;w2;", 0, 1);
        last.asks("order(31, 0)", 0).asks("order(31, 1)", 54321);
        // the fourth one's 10 comes to 6 only if he is first: 6, three times 2 and 7 are 19; and five were asked for ahead of these four
        Lens behind = chips("c2;s1 99;s2 10;s2 10;s2 10;w1;w2;w3;w0;w1;w2;", 1, 7);
        behind.asks("order(62, 0)", 2).is("order(15, 1)", 4123).is("order(62, 1)", 23456).is("order(15, 0)", 1).is("order(15, 1)", 4123);
    }

    private static void everyOrder(Lens x, int left, int figures, String order, int[] best) {
        if (left == 0) {
            Lens twin = x.again();
            for (int i = 0; i < order.length(); i++) {
                twin.calls("wear(" + order.charAt(i) + ")", "year(1)");
            }
            int dark = twin.call("told(7)");
            if (dark < best[0] || dark == best[0] && figures < best[1]) {
                best[0] = dark;
                best[1] = figures;
            }
            return;
        }
        for (int w = 0; w < 6; w++) {
            if ((left >> w & 1) == 1) {
                everyOrder(x, left & ~(1 << w), figures * 10 + w + 1, order + w, best);
            }
        }
    }

    private static void orderIsRefused() {
        Sheet.holds("`int order(int set, int what)`: ORDER: what = 0 how much, 1 the figures. UNKNOWN, OUTSIDE, NOT: fewer than two, more than five.");
        Lens x = Lens.of("c2;s2 9;w0;w0;w0;w0;w0;w0;");
        for (int set : new int[] {0, 1, 2, 32, 63}) {
            x.asks("order(" + set + ", 0)", NOT).asks("order(" + set + ", 1)", NOT).asks("order(" + set + ", 2)", OUTSIDE).asks("order(" + set + ", -1)", OUTSIDE);
        }
        for (int set : new int[] {64, 65, 67, 127, -1, LEAST, MOST}) {
            x.asks("order(" + set + ", 0)", UNKNOWN).asks("order(" + set + ", 2)", UNKNOWN);
        }
        x.asks("order(3, 2)", OUTSIDE).asks("order(3, -1)", OUTSIDE).asks("order(3, " + LEAST + ")", OUTSIDE).asks("order(3, " + MOST + ")", OUTSIDE);
        x.asks("order(3, 0)", 0).asks("order(31, 0)", 0).asks("order(61, 0)", 0);
        Lens two = Lens.of("c2;s2 9;w0;w0;");
        two.asks("order(3, 0)", 0).asks("order(4, 0)", UNKNOWN).asks("order(7, 0)", UNKNOWN).asks("order(1, 0)", NOT);
        Lens none = Lens.of("c2;s2 9;");
        none.asks("order(0, 0)", NOT).asks("order(1, 0)", UNKNOWN).asks("order(0, 2)", OUTSIDE);
    }

    private static void nextSight() {
        Sheet.holds("NEXT SIGHT: of a WEARER: what he would take the SCENE for at which he looks next.");
        Lens x = Lens.of("c50;s2 9;s2 8;s2 60;w2,0,1;w1;");
        x.asks("wearer(0, 4)", 2).asks("wearer(1, 4)", 1).does("wear(0)", NONE).does("year(1)", 1).asks("wearer(0, 4)", 0);
        x.does("year(1)", 2).asks("wearer(0, 4)", 1).does("year(1)", 3).asks("wearer(0, 4)", 2);
        // 50 and 60 have 55 as their half, 50 and 8 have 29; who does not wear it would take it so too
        x.does("chip(0, 55)", 4).asks("wearer(0, 4)", 2).asks("wearer(1, 4)", 0).does("chip(0, 56)", 5).asks("wearer(0, 4)", 0);
    }

    private static void saw() {
        Sheet.holds("SAW: SCENES (a SET) of which a WEARER has LAYERS.");
        Lens x = Lens.of("c50;s2 9;s0 8;s2 60;w2,0,1;w1;");
        x.asks("wearer(0, 2)", 0).does("chip(0, 5)", 1).asks("wearer(0, 2)", 0).does("wear(0)", NONE).does("year(3)", 3).asks("wearer(0, 2)", 7).asks("wearer(1, 2)", 0);
        // what he saw and what has faded, or was wiped, he has no more
        x.does("year(1)", 4).asks("wearer(0, 2)", 5).does("wipe(1)", 2).asks("wearer(0, 2)", 1);
        // the tenth layer too
        Lens tenth = chips("c50;s2 9;s2 8;w1;", 0, 5, 0, 5, 0, 5, 0, 5, 0, 5, 0, 5, 0, 5, 0, 5, 0, 5);
        tenth.does("wear(0)", NONE).does("year(1)", 1).asks("told(6)", 10).asks("wearer(0, 2)", 2).asks("told(8)", 2);
    }

    private static void seenByAll() {
        Sheet.holds("SEEN BY ALL: SCENES (a SET) of which all WEARERS have LAYERS (no WEARERS: none).");
        chips("c50;s2 9;s2 8;", 0, 5, 1, 5).asks("told(8)", 0);
        Lens one = Lens.of("c50;s2 9;s2 8;w0,1;");
        one.asks("told(8)", 0).does("wear(0)", NONE).does("year(1)", 1).asks("told(8)", 1).does("year(1)", 2).asks("told(8)", 3);
        Lens six = Lens.of("c50;s2 9;s2 8;w0,1;w0;w0,1;w0;w1,0;w0;");
        for (int w = 0; w < 5; w++) {
            six.calls("wear(" + w + ")", "year(1)");
        }
        // a chip is nobody's, and does not stand for the sixth
        six.asks("told(8)", 0).does("chip(0, 9)", 6).asks("told(8)", 0).does("wear(5)", 4).does("year(1)", 6).asks("told(8)", 0);
        six.does("wear(4)", 5).does("year(1)", 7).asks("told(8)", 1).does("wipe(0)", 7).asks("told(8)", 0);
    }

    private static void kin() {
        Sheet.holds("KIN: the other WEARER with whom one has most SCENES in common of which both have LAYERS; of like ones the least; "
                + "NONE: none in common.");
        Lens x = Lens.of("c50;s2 9;s2 8;s2 7;w0,1;w2;w0;w1,0;w0,1;");
        x.calls("wear(0)", "year(2)");
        x.asks("wearer(0, 3)", NONE).does("chip(0, 9)", 3).asks("wearer(0, 3)", NONE).does("wear(1)", 0).does("year(1)", 3).asks("wearer(0, 3)", NONE);
        x.does("wear(3)", 1).does("year(1)", 4).asks("wearer(0, 3)", 3).asks("wearer(3, 3)", 0).asks("wearer(1, 3)", NONE);
        // one in common with each of two: the least; then two with the later one: the most
        x.does("wear(2)", 3).does("year(1)", 5).asks("wearer(0, 3)", 2).does("wear(3)", 2).does("year(1)", 6).asks("wearer(0, 3)", 3);
        x.does("wear(4)", 3).does("year(2)", 8).asks("wearer(0, 3)", 3).asks("wearer(4, 3)", 0).asks("wearer(3, 3)", 0).asks("wearer(2, 3)", 0);
    }

    private static void eyes() {
        Sheet.holds("EYES: the lowest LAYER of a WEARER; NONE: no LAYER of one.");
        Lens x = Lens.of("c50;s2 9;s0 8;w1;w0;");
        x.asks("told(9)", NONE).does("chip(0, 5)", 1).asks("told(9)", NONE).does("chip(0, 5)", 2);
        x.does("wear(0)", NONE).does("year(1)", 1).asks("told(9)", 2).does("wear(1)", 0).does("year(1)", 2).asks("told(9)", 2).asks("told(6)", 3);
        x.does("wipe(0)", 2).asks("told(9)", 1).does("wipe(0)", 1).asks("told(9)", 0).does("chip(0, 5)", 2).asks("told(9)", 0).does("wipe(0)", 1).asks("told(9)", NONE);
        Lens nine = chips("c50;s2 9;w0;", 0, 5, 0, 5, 0, 5, 0, 5, 0, 5, 0, 5, 0, 5, 0, 5, 0, 5);
        nine.does("wear(0)", NONE).does("year(1)", 1).asks("told(9)", 9);
    }

    private static void strongest() {
        Sheet.holds("STRONGEST: the LAYER of most STRENGTH, of like ones the highest; NONE.");
        Lens x = Lens.of("c99;s2 9;");
        x.asks("told(10)", NONE).does("chip(0, 1)", 1).asks("told(10)", 0).does("chip(0, 1)", 2).asks("told(10)", 1);
        x.does("chip(0, 9)", 3).asks("told(10)", 2).does("chip(0, 8)", 4).asks("told(10)", 2).does("chip(0, 9)", 5).asks("told(10)", 4);
        x.does("chip(0, 8)", 6).asks("told(10)", 4).does("wipe(4)", 5).asks("told(10)", 2);
        chips("c99;s2 9;", 0, 5, 0, 5, 0, 5, 0, 5, 0, 5, 0, 5, 0, 5, 0, 5, 0, 5, 0, 5).asks("told(10)", 9);
        chips("c99;s2 9;", 0, 99, 0, 5, 0, 5, 0, 5, 0, 5, 0, 5, 0, 5, 0, 5, 0, 5, 0, 98).asks("told(10)", 0);
    }

    private static void thick() {
        Sheet.holds("THICK: the most LAYERS one above the other of one SCENE.");
        Lens.of("c50;s2 9;").asks("told(11)", 0);
        Lens x = chips("c50;s2 9;s2 8;", 0, 5, 0, 5, 1, 5, 0, 5, 0, 5, 0, 5, 1, 5);
        x.asks("told(11)", 3).does("wipe(2)", 6).asks("told(11)", 5).does("chip(0, 5)", 7).asks("told(11)", 5);
        chips("c50;s2 9;s2 8;", 0, 5).asks("told(11)", 1);
        chips("c50;s2 9;s2 8;", 0, 5, 1, 5, 0, 5, 1, 5).asks("told(11)", 1);
        chips("c50;s2 9;s2 8;", 0, 5, 1, 5, 1, 5).asks("told(11)", 2);
        chips("c50;s2 9;", 0, 5, 0, 5, 0, 5, 0, 5, 0, 5, 0, 5, 0, 5, 0, 5, 0, 5, 0, 5).asks("told(11)", 10);
        // whosever they are
        Lens mixed = Lens.of("c50;s2 9;s2 8;w0;w0;");
        mixed.calls("chip(0, 5)", "wear(0)", "year(1)", "wear(1)", "year(1)");
        mixed.asks("told(11)", 3);
    }

    private static void ground() {
        Sheet.holds("GROUND: THE PAIR would be CLEAR by so many more (0 .. 99) at least that a SCENE is TAKEN FOR itself; NONE.");
        Lens.of("c1;s2 1;").asks("ground(0)", 0);
        // 1 and 2, and so many: 3 more than that must be twice 51 at least
        chips("c1;s2 9;s2 2;", 0, 51).asks("ground(1)", 99).asks("ground(0)", 0);
        chips("c1;s2 9;s2 2;", 0, 52).asks("ground(1)", NONE);
        chips("c1;s2 9;s2 1;", 0, 50).asks("ground(1)", 98);
        chips("c1;s2 9;s2 1;", 0, 51).asks("ground(1)", NONE);
        chips("c1;s2 9;s2 1;", 0, 1).asks("ground(1)", 0);
        chips("c1;s2 9;s2 1;", 0, 2).asks("ground(1)", 2);
        chips("c1;s2 9;s2 2;", 0, 2).asks("ground(1)", 1);
        // C may come to be above 99 by it
        chips("c99;s2 9;s2 1;", 0, 99).asks("ground(1)", 98);
        chips("c99;s2 9;s2 99;", 0, 99).asks("ground(1)", 0);
        // seen by its own layer, which is the strongest; below a stronger one it is seen only when that one is not above
        Lens own = chips("c1;s2 9;s2 1;", 1, 90);
        own.asks("ground(1)", 0).asks("ground(0)", NONE).does("chip(0, 40)", 2).asks("ground(1)", 0).does("chip(0, 90)", 3).asks("ground(1)", NONE);
    }

    private static void groundIsRefused() {
        Sheet.holds("`int ground(int x)`: GROUND; NONE. UNKNOWN.");
        Lens x = chips("c2;s2 9;s2 8;", 0, 50);
        for (int scene : new int[] {-1, 2, 8, LEAST, MOST}) {
            x.asks("ground(" + scene + ")", UNKNOWN);
        }
    }

    private static void mist() {
        Sheet.holds("MIST: odds of n YEARS (0 .. 60) without mist, each by q of a hundred (0 .. 100): a BILLION times q / 100 each (cut).");
        Lens x = new Lens();
        Sheet.holds("BILLION is 1000000000.");
        x.asks("mist(0, 50)", 1000000000);
        Sheet.holds("a BILLION times q / 100 each (cut).");
        x.asks("mist(0, 0)", 1000000000).asks("mist(0, 100)", 1000000000).asks("mist(1, 0)", 0).asks("mist(60, 0)", 0);
        x.asks("mist(1, 100)", 1000000000).asks("mist(60, 100)", 1000000000).asks("mist(1, 1)", 10000000).asks("mist(4, 1)", 10).asks("mist(5, 1)", 0);
        x.asks("mist(60, 1)", 0).asks("mist(29, 50)", 1).asks("mist(30, 50)", 0);
        // cut each year, not once at the end: that would be 547156642 for 60 years by 99
        x.asks("mist(60, 99)", 547156620).asks("mist(59, 99)", 552683455).asks("mist(6, 33)", 1291467).asks("mist(1, 99)", 990000000);
    }

    private static void mistIsRefused() {
        Sheet.holds("`int mist(int n, int q)`: MIST. OUTSIDE.");
        for (Lens x : new Lens[] {new Lens(), Lens.of("c2;s2 9;")}) {
            for (int n : new int[] {-1, 61, LEAST, MOST}) {
                x.asks("mist(" + n + ", 50)", OUTSIDE).asks("mist(" + n + ", 101)", OUTSIDE).asks("mist(" + n + ", -1)", OUTSIDE);
            }
            for (int q : new int[] {-1, 101, LEAST, MOST}) {
                x.asks("mist(0, " + q + ")", OUTSIDE).asks("mist(60, " + q + ")", OUTSIDE);
            }
        }
    }
}
