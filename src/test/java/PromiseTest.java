/** Each promise of the document in turn: ordinary inputs, the edges that it names, wrong inputs. */
public final class PromiseTest {
    private static final int NONE = -1, UNKNOWN = -1000000001, OUTSIDE = -1000000002, NOT = -1000000003, FULL = -1000000004;
    private static final int LEAST = Integer.MIN_VALUE, MOST = Integer.MAX_VALUE;
    private static int promise = 0;
    private static int checks = 0;
    private static int wrong = 0;

    public static void main(String[] args) {
        newObject();
        feed();
        line();
        faults();
        told();
        scene();
        wearer();
        layer();
        logged();
        year();
        yearsFade();
        yearsEnd();
        wear();
        takeOff();
        wipe();
        chip();
        drift();
        undo();
        takes();
        dark();
        tooDark();
        willShow();
        toWipe();
        only();
        order();
        ground();
        mist();
        meet();
        couldBe();
        ask();
        write();
        judge();
        tear();
        seed();
        keep();
        goBack();
        System.out.println(wrong == 0 ? checks + " checks are as due" : wrong + " checks are not as due");
        if (wrong != 0) {
            System.exit(1);
        }
    }

    private static void due(String call, int got, int want) {
        checks++;
        if (got != want) {
            wrong++;
            System.out.println("promise " + promise + ": " + call + " answered " + got + ", due is " + want);
        }
    }

    private static void feedAll(HandedLens x, String text) {
        for (int i = 0; i < text.length(); i++) {
            x.feed(text.charAt(i));
        }
    }

    private static HandedLens of(String text) {
        HandedLens x = new HandedLens();
        feedAll(x, text);
        due("line() of " + text, x.line() < 0 ? 0 : 1, 1);
        return x;
    }

    private static void layerIs(HandedLens x, int k, int scene, int wearer, int strength) {
        due("layer(" + k + ", 0)", x.layer(k, 0), scene);
        due("layer(" + k + ", 1)", x.layer(k, 1), wearer);
        due("layer(" + k + ", 2)", x.layer(k, 2), strength);
    }

    private static void newObject() {
        promise = 1;
        HandedLens x = new HandedLens();
        int[] want = {0, 0, 0, 0, 0, NONE, 0, 0, 0, NONE, NONE, 0, 0, 0, 0, 0};
        for (int what = 0; what < want.length; what++) {
            due("told(" + what + ")", x.told(what), want[what]);
        }
        due("fault()", x.fault(), NONE);
        due("scene(0, 0)", x.scene(0, 0), UNKNOWN);
        due("wearer(0, 0)", x.wearer(0, 0), UNKNOWN);
        due("layer(0, 0)", x.layer(0, 0), UNKNOWN);
        due("logged(0, 0)", x.logged(0, 0), NONE);
        due("year(1)", x.year(1), NOT);
        due("year(31)", x.year(31), OUTSIDE);
        due("drift(1)", x.drift(1), NOT);
        due("drift(0)", x.drift(0), OUTSIDE);
        due("wear(0)", x.wear(0), UNKNOWN);
        due("takeOff()", x.takeOff(), NOT);
        due("wipe(0)", x.wipe(0), UNKNOWN);
        due("chip(0, 1)", x.chip(0, 1), UNKNOWN);
        due("undo(1)", x.undo(1), NOT);
        due("takes(0)", x.takes(0), UNKNOWN);
        due("dark(60)", x.dark(60), 0);
        due("tooDark(1)", x.tooDark(1), NONE);
        due("willShow(0, 0)", x.willShow(0, 0), UNKNOWN);
        due("toWipe(0, 0)", x.toWipe(0, 0), 0);
        due("toWipe(0, 1)", x.toWipe(0, 1), 0);
        due("toWipe(1, 0)", x.toWipe(1, 0), UNKNOWN);
        due("only(0, 0)", x.only(0, 0), UNKNOWN);
        due("order(0, 0)", x.order(0, 0), NOT);
        due("order(1, 0)", x.order(1, 0), UNKNOWN);
        due("ground(0)", x.ground(0), UNKNOWN);
        due("mist(0, 0)", x.mist(0, 0), 1000000000);
        due("meet(0, true)", x.meet(0, true), UNKNOWN);
        due("couldBe()", x.couldBe(), 0);
        due("ask()", x.ask(), NONE);
        due("write(0, 0)", x.write(0, 0), UNKNOWN);
        due("judge()", x.judge(), NONE);
        due("tear()", x.tear(), 0);
        due("goBack(0)", x.goBack(0), NOT);
        due("keep(0)", x.keep(0), 1);
        due("goBack(0)", x.goBack(0), 1);
        due("seed(0)", x.seed(0), 0);
    }

    private static void feed() {
        promise = 2;
        HandedLens x = new HandedLens();
        due("feed(-1)", x.feed(-1), OUTSIDE);
        due("feed(256)", x.feed(256), OUTSIDE);
        due("feed(LEAST)", x.feed(LEAST), OUTSIDE);
        due("feed(MOST)", x.feed(MOST), OUTSIDE);
        due("feed(0)", x.feed(0), 1);
        due("feed(255)", x.feed(255), 2);
        for (int i = 3; i <= 240; i++) {
            due("feed(32)", x.feed(32), i);
        }
        due("feed(32) behind 240", x.feed(32), FULL);
        due("feed(256) behind 240", x.feed(256), OUTSIDE);
        due("told(3)", x.told(3), 240);
        due("line()", x.line(), -11);
        due("fault()", x.fault(), 0);
        due("told(3)", x.told(3), 0);
        feedAll(x, "c5;");
        for (int i = 4; i <= 240; i++) {
            x.feed(32);
        }
        due("line() of 240 letters", x.line(), 0);
        due("told(0)", x.told(0), 5);
    }

    private static void line() {
        promise = 3;
        HandedLens x = of("c3;s0 20;s1 35;w0,1;");
        x.seed(77);
        x.wear(0);
        x.year(5);
        x.chip(1, 50);
        x.meet(0, true);
        x.write(0, 0);
        x.keep(1);
        x.chip(1, 50);
        feedAll(x, "c0;");
        due("line() with a fault", x.line(), -12);
        int[] still = {3, 2, 1, 0, 5, 0, 4};
        for (int what = 0; what < still.length; what++) {
            due("told(" + what + ") behind a fault", x.told(what), still[what]);
        }
        due("told(12)", x.told(12), 5);
        due("told(13)", x.told(13), 1);
        due("told(14)", x.told(14), 1);
        due("told(15)", x.told(15), 1);
        feedAll(x, "c99;s2 9;s3 8;s0 1;w2;w1;");
        due("line()", x.line(), 3);
        int[] anew = {99, 3, 2, 0, 0, NONE, 0, 0, 0, NONE, NONE, 0, 0, 0, 0, 0};
        for (int what = 0; what < anew.length; what++) {
            due("told(" + what + ") anew", x.told(what), anew[what]);
        }
        due("wearer(0, 1)", x.wearer(0, 1), 0);
        due("goBack(1)", x.goBack(1), NOT);
        due("seed(1) stays", x.seed(1), 77);
        due("line() of an empty text", x.line(), 0);
        due("told(0): no line", x.told(0), 0);
        due("told(1)", x.told(1), 0);
        due("told(2)", x.told(2), 0);
        due("year(1)", x.year(1), NOT);
        due("seed(5) stays", x.seed(5), 1);
        feedAll(x, " c 1 ; ");
        due("line() of a pair alone", x.line(), 0);
        due("line() of an empty text", x.line(), 0);
        feedAll(x, "c5;s0 1;s0 2;w0,1,0;w1;");
        x.line();
        feedAll(x, "c6;s0 3;w0;");
        due("line() again", x.line(), 1);
        due("wearer(0, 0) is the new text's", x.wearer(0, 0), 1);
        due("wearer(1, 0)", x.wearer(1, 0), UNKNOWN);
        feedAll(x, "c5;s0 1;s0 2;w1;w1,1;");
        x.line();
        due("wearer(0, 0)", x.wearer(0, 0), 1);
        due("wearer(0, 4)", x.wearer(0, 4), 1);
        due("wearer(1, 0)", x.wearer(1, 0), 2);
        feedAll(x, "c 1;");
        x.line();
        due("told(0)", x.told(0), 1);
        due("year(1)", x.year(1), 1);
    }

    private static void fault(String text, int number, int at) {
        HandedLens x = new HandedLens();
        feedAll(x, text);
        due("line() of '" + text + "'", x.line(), -10 - number);
        due("fault() of '" + text + "'", x.fault(), at);
        due("told(3)", x.told(3), 0);
        due("told(0)", x.told(0), 0);
        feedAll(x, "c1;");
        x.line();
        due("fault() behind one without", x.fault(), NONE);
    }

    private static void faults() {
        promise = 4;
        fault("x", 1, 0);
        fault("w0;", 1, 0);
        fault(";", 1, 0);
        fault("  7", 1, 2);
        fault("c", 1, 1);
        fault("c1", 1, 2);
        fault("c1  ", 1, 4);
        fault("cc", 1, 1);
        fault("c1c", 1, 2);
        fault("c1 2;", 1, 3);
        fault("c1,", 1, 2);
        fault("c1;;", 1, 3);
        fault("c1;x", 1, 3);
        fault("c1;\t", 1, 3);
        fault("c-1;", 1, 1);
        fault("C1;", 1, 0);
        fault("c0;", 2, 1);
        fault("c 100;", 2, 2);
        fault("c0001;", 2, 1);
        fault("c0001", 2, 1);
        fault("c1000x", 2, 1);
        fault("c12345678901234567890;", 2, 1);
        fault("c1;c", 3, 3);
        fault("c1; c1;", 3, 4);
        fault("c1;s", 1, 4);
        fault("c1;s0", 1, 5);
        fault("c1;s01;", 1, 6);
        fault("c1;s0,1;", 1, 5);
        fault("c1;s0 1 1;", 1, 8);
        fault("c1;s0 1,", 1, 7);
        fault("c1;s0 1", 1, 7);
        fault("c1;s4 1;", 2, 4);
        fault("c1;s012;", 2, 4);
        fault("c1;s0 0;", 2, 6);
        fault("c1;s0 100;", 2, 6);
        fault("c1;s0 0001;", 2, 6);
        fault("c1;w", 1, 4);
        fault("c1;w;", 1, 4);
        fault("c1;w0;s0 1;", 2, 4);
        fault("c1;s0 1;w1;", 2, 9);
        fault("c1;s0 1;w0,1;", 2, 11);
        fault("c1;s0 1;w0000;", 2, 9);
        fault("c1;s0 1;w0 0;", 1, 11);
        fault("c1;s0 1;w0,,0;", 1, 11);
        fault("c1;s0 1;w0,;", 1, 11);
        fault("c1;s0 1;w0", 1, 10);
        fault("c1;s0 1;w0,0,0,0,0,0,0;", 1, 20);
        fault("c1;s0 1;w0,0,0,0,0,0,9;", 1, 20);
        fault("c1;s0 1;w0,0,0,0,0,0;w0;w0;w0;w0;w0;w0;", 3, 36);
        fault("c1;s0 1;s0 1;s0 1;s0 1;s0 1;s0 1;s0 1;s0 1;s0 1;", 3, 43);
        fault("c1;s0 1;s0 1;s0 1;s0 1;s0 1;s0 1;s0 1;s0 1 s", 1, 43);
        HandedLens x = of(" c 099 ; s 3 099 ; s 000 1 ;w 0 , 001 ,0,0,0 ,1 ; s1 7;w2;");
        due("told(0)", x.told(0), 99);
        due("told(1)", x.told(1), 3);
        due("told(2)", x.told(2), 2);
        due("wearer(0, 0)", x.wearer(0, 0), 6);
        due("scene(0, 0)", x.scene(0, 0), 3);
        due("scene(0, 1)", x.scene(0, 1), 99);
        due("scene(1, 0)", x.scene(1, 0), 0);
        due("scene(2, 1)", x.scene(2, 1), 7);
    }

    private static void told() {
        promise = 5;
        HandedLens x = of("c8;s2 30;s2 20;s2 10;w0,1;w1,2;");
        due("told(-1)", x.told(-1), OUTSIDE);
        due("told(16)", x.told(16), OUTSIDE);
        due("told(LEAST)", x.told(LEAST), OUTSIDE);
        due("told(MOST)", x.told(MOST), OUTSIDE);
        x.chip(2, 10);
        x.chip(2, 9);
        due("told(9): chips are nobody's", x.told(9), NONE);
        due("told(11)", x.told(11), 2);
        x.wear(0);
        x.year(2);
        x.wear(1);
        x.year(2);
        // 2:10 2:9, 0:4 1:3 of the first, 1:3 2:2 of the second
        x.feed('c');
        x.meet(0, false);
        x.write(1, 1);
        x.write(1, 2);
        int[] want = {8, 3, 2, 1, 4, 1, 6, 3, 2, 2, 0, 2, 4, 1, 2, 8};
        for (int what = 0; what < want.length; what++) {
            due("told(" + what + ")", x.told(what), want[what]);
        }
        x.chip(2, 1);
        x.chip(2, 10);
        due("told(10): of like ones the highest", x.told(10), 7);
        due("told(11): one above the other", x.told(11), 3);
        HandedLens y = of("c8;s2 30;");
        y.chip(0, 10);
        due("told(8) without wearers", y.told(8), 0);
        due("told(5)", y.told(5), NONE);
    }

    private static void scene() {
        promise = 6;
        HandedLens x = of("c10;s3 30;s2 21;s1 99;");
        due("scene(-1, 9)", x.scene(-1, 9), UNKNOWN);
        due("scene(3, 0)", x.scene(3, 0), UNKNOWN);
        due("scene(LEAST, 0)", x.scene(LEAST, 0), UNKNOWN);
        due("scene(0, -1)", x.scene(0, -1), OUTSIDE);
        due("scene(0, 4)", x.scene(0, 4), OUTSIDE);
        due("scene(0, 0)", x.scene(0, 0), 3);
        due("scene(0, 1)", x.scene(0, 1), 30);
        due("scene(0, 2)", x.scene(0, 2), 20);
        due("scene(1, 2): cut", x.scene(1, 2), 15);
        due("scene(2, 2): cut", x.scene(2, 2), 54);
        due("scene(2, 3)", x.scene(2, 3), 4);
        x.chip(2, 16);
        due("scene(2, 3)", x.scene(2, 3), 6);
        due("scene(1, 3)", x.scene(1, 3), 0);
        due("scene(0, 3)", x.scene(0, 3), 1);
    }

    private static void wearer() {
        promise = 7;
        HandedLens x = of("c8;s2 30;s2 20;s2 10;w0,1,2;w0;w0,1;w2,1,0,1;");
        due("wearer(-1, 9)", x.wearer(-1, 9), UNKNOWN);
        due("wearer(4, 0)", x.wearer(4, 0), UNKNOWN);
        due("wearer(MOST, 0)", x.wearer(MOST, 0), UNKNOWN);
        due("wearer(0, -1)", x.wearer(0, -1), OUTSIDE);
        due("wearer(0, 5)", x.wearer(0, 5), OUTSIDE);
        due("wearer(3, 0)", x.wearer(3, 0), 4);
        due("wearer(0, 4)", x.wearer(0, 4), 0);
        x.wear(0);
        x.year(4);
        due("wearer(0, 1)", x.wearer(0, 1), 4);
        due("wearer(0, 2)", x.wearer(0, 2), 7);
        due("wearer(0, 3)", x.wearer(0, 3), NONE);
        due("wearer(0, 4): the fifth year's is the second scene", x.wearer(0, 4), 1);
        x.wear(1);
        x.year(1);
        due("wearer(0, 3)", x.wearer(0, 3), 1);
        x.wear(2);
        x.year(2);
        due("wearer(0, 3): most in common", x.wearer(0, 3), 2);
        x.wear(3);
        x.year(2);
        due("wearer(0, 3): of like ones the least", x.wearer(0, 3), 2);
        due("wearer(1, 3)", x.wearer(1, 3), 0);
        due("wearer(3, 3)", x.wearer(3, 3), 0);
        due("wearer(3, 2)", x.wearer(3, 2), 6);
        x.chip(2, 60);
        due("wearer(3, 4): what he takes it for", x.wearer(3, 4), 2);
        due("wearer(1, 2): chips are not his", x.wearer(1, 2), 1);
    }

    private static void layer() {
        promise = 8;
        HandedLens x = of("c8;s2 30;s2 20;w1;");
        due("layer(0, 9)", x.layer(0, 9), UNKNOWN);
        x.chip(0, 7);
        x.wear(0);
        x.year(1);
        layerIs(x, 0, 0, NONE, 7);
        layerIs(x, 1, 1, 0, 3);
        due("layer(2, 0)", x.layer(2, 0), UNKNOWN);
        due("layer(-1, 0)", x.layer(-1, 0), UNKNOWN);
        due("layer(LEAST, 0)", x.layer(LEAST, 0), UNKNOWN);
        due("layer(1, 3)", x.layer(1, 3), OUTSIDE);
        due("layer(1, -1)", x.layer(1, -1), OUTSIDE);
    }

    private static void logged() {
        promise = 9;
        HandedLens x = of("c8;s2 30;s2 20;w1,0;w1;");
        due("logged(0, 4)", x.logged(0, 4), OUTSIDE);
        due("logged(0, -1)", x.logged(0, -1), OUTSIDE);
        due("logged(99, 4)", x.logged(99, 4), OUTSIDE);
        due("logged(0, 0)", x.logged(0, 0), NONE);
        x.year(3);
        due("logged(0, 0): nobody looked", x.logged(0, 0), NONE);
        x.chip(0, 99);
        x.wear(0);
        x.year(1);
        x.wear(1);
        x.year(2);
        int[][] want = {{5, 1, 1, 0}, {4, 1, 1, 0}, {3, 0, 1, 0}};
        for (int i = 0; i < 3; i++) {
            for (int what = 0; what < 4; what++) {
                due("logged(" + i + ", " + what + ")", x.logged(i, what), want[i][what]);
            }
        }
        due("logged(3, 0)", x.logged(3, 0), NONE);
        due("logged(-1, 0)", x.logged(-1, 0), NONE);
        due("logged(MOST, 0)", x.logged(MOST, 0), NONE);
        x.wipe(0);
        due("logged(0, 3) is what it was then", x.logged(0, 3), 0);
        x.year(25);
        due("told(12)", x.told(12), 20);
        due("logged(19, 0)", x.logged(19, 0), 11);
        due("logged(0, 0)", x.logged(0, 0), 30);
        due("logged(20, 0)", x.logged(20, 0), NONE);
    }

    private static void year() {
        promise = 10;
        HandedLens x = of("c8;s2 99;s0 20;w0,1,1;");
        due("year(0)", x.year(0), OUTSIDE);
        due("year(31)", x.year(31), OUTSIDE);
        due("year(LEAST)", x.year(LEAST), OUTSIDE);
        due("year(30)", x.year(30), 30);
        due("told(6): nobody looked", x.told(6), 0);
        x.wear(0);
        due("year(1)", x.year(1), 31);
        layerIs(x, 0, 0, 0, 10);
        due("year(2)", x.year(2), 33);
        layerIs(x, 1, 1, 0, 6);
        due("year(1)", x.year(1), 34);
        layerIs(x, 0, 0, 0, 20);
        layerIs(x, 1, 1, 0, 5);
        x.year(26);
        layerIs(x, 0, 0, 0, 99);
        due("wearer(0, 1)", x.wearer(0, 1), 30);

        HandedLens full = of("c8;s2 99;s0 20;w1;");
        for (int i = 0; i < 10; i++) {
            due("chip", full.chip(0, i == 3 || i == 5 ? 2 : 9), i + 1);
        }
        full.wear(0);
        full.year(1);
        due("told(6): the weakest goes", full.told(6), 10);
        due("layer(3, 2): of like ones the lowest", full.layer(3, 2), 9);
        due("layer(4, 2)", full.layer(4, 2), 2);
        layerIs(full, 9, 1, 0, 3);
        full.year(1);
        due("told(6): he has one", full.told(6), 10);
        layerIs(full, 9, 1, 0, 6);
        due("layer(4, 2)", full.layer(4, 2), 2);
    }

    /** Far beyond 512 calls, where the document leaves all free: it is the one way to FULL. */
    private static void yearsEnd() {
        promise = 10;
        HandedLens x = of("c8;s2 99;w0;");
        for (int i = 1; i <= 3000; i++) {
            x.year(30);
        }
        due("told(4)", x.told(4), 90000);
        due("year(1): 90000 is not above", x.year(1), 90001);
        due("year(31)", x.year(31), OUTSIDE);
        due("year(1)", x.year(1), FULL);
        due("drift(1)", x.drift(1), FULL);
        due("drift(31)", x.drift(31), OUTSIDE);
        due("told(4)", x.told(4), 90001);
    }

    private static void yearsFade() {
        promise = 10;
        HandedLens x = of("c8;s0 50;s1 50;s2 50;s3 50;w0;w1;w2;w3;");
        x.chip(0, 30);
        x.chip(1, 30);
        x.chip(2, 30);
        x.chip(3, 30);
        int[][] want = {{29, 26, 30, 30}, {28, 23, 30, 27}, {27, 20, 30, 27}, {26, 17, 30, 24}, {25, 15, 30, 24}};
        for (int y = 0; y < want.length; y++) {
            x.year(1);
            for (int k = 0; k < 4; k++) {
                due("layer(" + k + ", 2) behind " + (y + 1), x.layer(k, 2), want[y][k]);
            }
        }
        x.year(30);
        due("told(6): what has come to 0 is gone", x.told(6), 1);
        layerIs(x, 0, 2, NONE, 30);

        HandedLens tenth = of("c8;s1 50;");
        int[] strengths = {99, 90, 89, 20, 19, 18, 10, 9, 2, 1};
        int[] faded = {89, 80, 80, 17, 17, 16, 8, 8, 1};
        for (int k = 0; k < strengths.length; k++) {
            tenth.chip(0, strengths[k]);
        }
        tenth.year(1);
        due("told(6)", tenth.told(6), faded.length);
        for (int k = 0; k < faded.length; k++) {
            due("layer(" + k + ", 2) of " + strengths[k], tenth.layer(k, 2), faded[k]);
        }

        HandedLens own = of("c8;s0 50;s1 50;s3 50;w0;w1;w2;");
        for (int w = 0; w < 3; w++) {
            own.wear(w);
            own.year(2);
        }
        // each has 12 by its own two years; the first fades by 1 in four more, the second by 2 in two more
        layerIs(own, 0, 0, 0, 8);
        layerIs(own, 1, 1, 1, 8);
        layerIs(own, 2, 2, 2, 12);
        own.chip(0, 1);
        due("told(6)", own.told(6), 4);
        own.year(1);
        due("told(6)", own.told(6), 3);
    }

    private static void wear() {
        promise = 11;
        HandedLens x = of("c8;s2 30;w0;w0;");
        due("wear(-1)", x.wear(-1), UNKNOWN);
        due("wear(2)", x.wear(2), UNKNOWN);
        due("wear(MOST)", x.wear(MOST), UNKNOWN);
        due("wear(1)", x.wear(1), NONE);
        due("wear(1)", x.wear(1), NOT);
        due("told(15): refused, it is no deed", x.told(15), 1);
        due("wear(0)", x.wear(0), 1);
        due("told(5)", x.told(5), 0);
        due("told(15)", x.told(15), 2);
        due("told(4)", x.told(4), 0);
    }

    private static void takeOff() {
        promise = 12;
        HandedLens x = of("c8;s2 30;w0;w0;");
        due("takeOff()", x.takeOff(), NOT);
        due("told(15)", x.told(15), 0);
        x.wear(1);
        due("takeOff()", x.takeOff(), 1);
        due("told(5)", x.told(5), NONE);
        due("told(15)", x.told(15), 2);
        due("takeOff()", x.takeOff(), NOT);
    }

    private static void wipe() {
        promise = 13;
        HandedLens x = of("c8;s2 30;s1 20;");
        due("wipe(0)", x.wipe(0), UNKNOWN);
        x.chip(0, 1);
        x.chip(1, 2);
        x.chip(0, 3);
        due("wipe(3)", x.wipe(3), UNKNOWN);
        due("wipe(-1)", x.wipe(-1), UNKNOWN);
        due("wipe(LEAST)", x.wipe(LEAST), UNKNOWN);
        due("told(15)", x.told(15), 3);
        due("wipe(1)", x.wipe(1), 2);
        layerIs(x, 0, 0, NONE, 1);
        layerIs(x, 1, 0, NONE, 3);
        due("wipe(1)", x.wipe(1), 1);
        due("wipe(0)", x.wipe(0), 0);
        due("told(15)", x.told(15), 6);
    }

    private static void chip() {
        promise = 14;
        HandedLens x = of("c8;s2 30;s1 20;");
        due("chip(2, 0)", x.chip(2, 0), UNKNOWN);
        due("chip(-1, 1)", x.chip(-1, 1), UNKNOWN);
        due("chip(0, 0)", x.chip(0, 0), OUTSIDE);
        due("chip(0, 100)", x.chip(0, 100), OUTSIDE);
        due("chip(0, LEAST)", x.chip(0, LEAST), OUTSIDE);
        due("chip(0, 99)", x.chip(0, 99), 1);
        due("chip(1, 1)", x.chip(1, 1), 2);
        layerIs(x, 0, 0, NONE, 99);
        layerIs(x, 1, 1, NONE, 1);
        for (int i = 3; i <= 10; i++) {
            due("chip(0, 1)", x.chip(0, 1), i);
        }
        due("chip(1, 5) of 10", x.chip(1, 5), 10);
        layerIs(x, 0, 0, NONE, 99);
        layerIs(x, 1, 0, NONE, 1);
        layerIs(x, 9, 1, NONE, 5);
        due("told(15)", x.told(15), 11);
    }

    private static void drift() {
        promise = 15;
        HandedLens x = of("c8;s2 30;s1 20;w0,1;");
        due("drift(0)", x.drift(0), OUTSIDE);
        due("drift(31)", x.drift(31), OUTSIDE);
        due("drift(MOST)", x.drift(MOST), OUTSIDE);
        x.seed(7);
        int seed = 7;
        due("drift(1)", x.drift(1), 1);
        // what one draw leaves of THE SEED: by what it drew there is none, one or two draws more
        int first = next(seed);
        int drawn = first / 65536 % 8;
        int draws = drawn == 0 ? 2 : drawn == 2 ? 3 : 1;
        for (int i = 0; i < draws; i++) {
            seed = next(seed);
        }
        due("seed(0)", x.seed(0), seed);
        due("drift(30)", x.drift(30), 31);
        due("told(15)", x.told(15), 30);

        for (int s = 0; s < 400; s++) {
            oneDrift(s * 5000011 & MOST);
            HandedLens bare = of("c1;");
            bare.seed(s * 5000011 & MOST);
            bare.drift(1);
            due("seed(0): nothing to draw of", bare.seed(0), next(s * 5000011 & MOST));
            due("told(5)", bare.told(5), NONE);
            due("told(6)", bare.told(6), 0);
        }
    }

    private static int next(int seed) {
        return (int) ((seed * 1103515245L + 12345) % 2147483648L);
    }

    /** One year by draws, from a pair that is worn and has three layers that don't fade. */
    private static void oneDrift(int seed) {
        HandedLens x = of("c8;s2 30;s2 20;s2 10;w0;w1;");
        x.wear(0);
        x.chip(0, 50);
        x.chip(1, 51);
        x.chip(2, 52);
        x.seed(seed);
        x.drift(1);
        int a = next(seed);
        int b = next(a);
        int c = next(b);
        int drawn = a / 65536 % 8;
        if (drawn == 0) {
            due("told(5)", x.told(5), b / 65536 % 2);
            layerIs(x, 3, b / 65536 % 2, b / 65536 % 2, b / 65536 % 2 == 0 ? 4 : 3);
            due("seed(0)", x.seed(0), b);
        } else if (drawn == 1) {
            int k = b / 65536 % 3;
            due("layer(0, 2)", x.layer(0, 2), k == 0 ? 51 : 50);
            due("layer(1, 2)", x.layer(1, 2), k == 2 ? 51 : 52);
            layerIs(x, 2, 0, 0, 4);
            due("seed(0)", x.seed(0), b);
        } else if (drawn == 2) {
            layerIs(x, 3, b / 65536 % 3, NONE, c / 65536 % 30 + 1);
            layerIs(x, 4, 0, 0, 4);
            due("seed(0)", x.seed(0), c);
        } else if (drawn == 3) {
            due("told(5)", x.told(5), NONE);
            due("told(6)", x.told(6), 3);
            due("told(12)", x.told(12), 0);
            due("seed(0)", x.seed(0), a);
        } else {
            due("told(5)", x.told(5), 0);
            due("told(6)", x.told(6), 4);
            due("seed(0)", x.seed(0), a);
        }
        due("undo(1): the draw's deed too", x.undo(1), 0);
        due("told(5)", x.told(5), 0);
        due("told(6)", x.told(6), 3);
    }

    private static void undo() {
        promise = 16;
        HandedLens x = of("c8;s2 30;s1 20;w0,1;w1;");
        due("undo(0)", x.undo(0), OUTSIDE);
        due("undo(31)", x.undo(31), OUTSIDE);
        due("undo(1)", x.undo(1), NOT);
        x.wear(0);
        x.year(3);
        x.chip(1, 40);
        x.wipe(0);
        x.takeOff();
        due("told(15)", x.told(15), 7);
        due("undo(8)", x.undo(8), NOT);
        due("undo(1): takeOff", x.undo(1), 3);
        due("told(5)", x.told(5), 0);
        due("told(6)", x.told(6), 2);
        due("undo(1): wipe", x.undo(1), 3);
        layerIs(x, 0, 0, 0, 8);
        due("told(6)", x.told(6), 3);
        due("undo(1): chip", x.undo(1), 3);
        due("told(6)", x.told(6), 2);
        due("undo(1): a year", x.undo(1), 2);
        due("wearer(0, 1)", x.wearer(0, 1), 2);
        due("told(12)", x.told(12), 2);
        due("undo(2)", x.undo(2), 0);
        due("told(6)", x.told(6), 0);
        due("told(5)", x.told(5), 0);
        due("undo(1): wear", x.undo(1), 0);
        due("told(5)", x.told(5), NONE);
        due("undo(1)", x.undo(1), NOT);

        x.wear(1);
        x.year(30);
        x.year(25);
        x.meet(0, true);
        x.write(0, 0);
        x.seed(9);
        due("told(15): 30 at most", x.told(15), 30);
        due("undo(30)", x.undo(30), 25);
        due("logged(0, 0)", x.logged(0, 0), 24);
        due("logged(19, 0): the log is as it was", x.logged(19, 0), 5);
        due("told(15)", x.told(15), 0);
        due("told(13): what is met stays", x.told(13), 1);
        due("told(14)", x.told(14), 1);
        due("seed(0) stays", x.seed(0), 9);
        due("undo(1)", x.undo(1), NOT);
    }

    private static void takes() {
        promise = 17;
        HandedLens x = of("c10;s2 30;s2 20;s2 10;");
        due("takes(-1)", x.takes(-1), UNKNOWN);
        due("takes(3)", x.takes(3), UNKNOWN);
        due("takes(1)", x.takes(1), 1);
        x.chip(0, 15);
        due("takes(1): not above half", x.takes(1), 1);
        due("takes(2)", x.takes(2), 0);
        x.chip(2, 16);
        due("takes(1)", x.takes(1), 2);
        due("takes(0)", x.takes(0), 0);
        due("takes(2)", x.takes(2), 2);
        x.chip(1, 16);
        due("takes(2): of like ones the highest", x.takes(2), 1);
        x.chip(0, 15);
        due("takes(2): not the highest, the strongest", x.takes(2), 1);
    }

    private static void dark() {
        promise = 18;
        HandedLens x = of("c10;s0 30;s2 20;w1;");
        due("dark(-1)", x.dark(-1), OUTSIDE);
        due("dark(61)", x.dark(61), OUTSIDE);
        x.chip(0, 29);
        due("dark(0): cut", x.dark(0), 2);
        due("dark(9)", x.dark(9), 2);
        due("dark(10)", x.dark(10), 1);
        due("dark(60)", x.dark(60), 0);
        x.wear(0);
        due("dark(60): 99 at most", x.dark(60), 9);
        due("dark(1): 28 and 3", x.dark(1), 3);
        due("told(4): nothing changes", x.told(4), 0);
        due("told(12)", x.told(12), 0);
        due("told(15)", x.told(15), 2);
        due("wearer(0, 1)", x.wearer(0, 1), 0);
        due("layer(0, 2)", x.layer(0, 2), 29);
    }

    private static void tooDark() {
        promise = 19;
        HandedLens x = of("c10;s2 1;s2 20;w0;");
        due("tooDark(0)", x.tooDark(0), OUTSIDE);
        due("tooDark(100)", x.tooDark(100), OUTSIDE);
        due("tooDark(1)", x.tooDark(1), NONE);
        x.wear(0);
        due("tooDark(1)", x.tooDark(1), 10);
        due("tooDark(9)", x.tooDark(9), 90);
        due("tooDark(10)", x.tooDark(10), NONE);
        x.chip(1, 99);
        due("tooDark(9)", x.tooDark(9), 0);
        due("tooDark(19)", x.tooDark(19), 91);
        due("tooDark(99)", x.tooDark(99), NONE);
        HandedLens late = of("c10;s2 1;s2 1;s2 1;s2 1;w0,1,2,3;");
        late.wear(0);
        due("tooDark(20) at 200", late.tooDark(20), 200);
        due("tooDark(21)", late.tooDark(21), NONE);
        // five looks of six stay, the sixth is gone a year later: 165 behind 198 years, 167 behind 200
        HandedLens edge = of("c10;s2 1;s2 1;s2 1;s0 1;w0,1,2,0,1,3;");
        edge.wear(0);
        edge.chip(2, 3);
        due("tooDark(17) at 200", edge.tooDark(17), 200);
        edge.wipe(0);
        edge.chip(2, 2);
        due("tooDark(17) at 201", edge.tooDark(17), NONE);
        due("told(4)", late.told(4), 0);
    }

    private static void willShow() {
        promise = 20;
        HandedLens x = of("c10;s0 30;s2 20;w0,1;");
        due("willShow(2, 61)", x.willShow(2, 61), UNKNOWN);
        due("willShow(-1, 0)", x.willShow(-1, 0), UNKNOWN);
        due("willShow(0, -1)", x.willShow(0, -1), OUTSIDE);
        due("willShow(0, 61)", x.willShow(0, 61), OUTSIDE);
        x.chip(0, 9);
        x.chip(1, 7);
        x.chip(0, 4);
        due("willShow(0, 0)", x.willShow(0, 0), 13);
        due("willShow(0, 4)", x.willShow(0, 4), 5);
        due("willShow(1, 60)", x.willShow(1, 60), 7);
        x.wear(0);
        due("willShow(0, 1)", x.willShow(0, 1), 15);
        due("willShow(1, 2)", x.willShow(1, 2), 10);
        due("told(6)", x.told(6), 3);
    }

    private static void toWipe() {
        promise = 21;
        HandedLens x = of("c10;s2 30;s2 20;s2 10;");
        due("toWipe(8, 9)", x.toWipe(8, 9), UNKNOWN);
        due("toWipe(-1, 0)", x.toWipe(-1, 0), UNKNOWN);
        due("toWipe(LEAST, 0)", x.toWipe(LEAST, 0), UNKNOWN);
        due("toWipe(7, 2)", x.toWipe(7, 2), OUTSIDE);
        due("toWipe(7, -1)", x.toWipe(7, -1), OUTSIDE);
        due("toWipe(7, 0)", x.toWipe(7, 0), 0);
        x.chip(0, 25);
        x.chip(1, 12);
        x.chip(0, 18);
        x.chip(2, 17);
        due("toWipe(0, 0)", x.toWipe(0, 0), 0);
        due("toWipe(1, 0)", x.toWipe(1, 0), 0);
        due("toWipe(2, 0)", x.toWipe(2, 0), 3);
        due("toWipe(2, 1)", x.toWipe(2, 1), 13);
        due("toWipe(4, 0)", x.toWipe(4, 0), 2);
        due("toWipe(4, 1)", x.toWipe(4, 1), 5);
        due("toWipe(6, 0)", x.toWipe(6, 0), 4);
        due("toWipe(6, 1)", x.toWipe(6, 1), 15);
        due("told(6)", x.told(6), 4);
    }

    private static void only() {
        promise = 22;
        HandedLens x = of("c10;s2 30;s2 20;s2 10;");
        due("only(0, 0)", x.only(0, 0), UNKNOWN);
        x.chip(0, 25);
        x.chip(1, 18);
        x.chip(0, 18);
        x.chip(2, 10);
        due("only(4, 0)", x.only(4, 0), UNKNOWN);
        due("only(0, 3)", x.only(0, 3), UNKNOWN);
        due("only(-1, 0)", x.only(-1, 0), UNKNOWN);
        due("only(0, -1)", x.only(0, -1), UNKNOWN);
        due("only(0, 0)", x.only(0, 0), 0);
        due("only(1, 1): the stronger, the like one above", x.only(1, 1), 2);
        due("only(2, 1): its own is the strongest", x.only(2, 1), 1);
        due("only(1, 0): not strong enough", x.only(1, 0), NONE);
        due("only(3, 2): not above half", x.only(3, 2), NONE);
        x.chip(2, 11);
        due("only(4, 2)", x.only(4, 2), 3);
        due("told(6)", x.told(6), 5);
    }

    private static void order() {
        promise = 23;
        HandedLens x = of("c10;s3 30;s0 20;s1 90;w0;w1;w2;w0;w1;w2;");
        due("order(64, 9)", x.order(64, 9), UNKNOWN);
        due("order(-1, 0)", x.order(-1, 0), UNKNOWN);
        due("order(1, 2)", x.order(1, 2), OUTSIDE);
        due("order(3, -1)", x.order(3, -1), OUTSIDE);
        due("order(0, 0)", x.order(0, 0), NOT);
        due("order(32, 1)", x.order(32, 1), NOT);
        due("order(63, 0): six", x.order(63, 0), NOT);
        due("order(9, 1)", x.order(9, 1), 14);
        // 0 then 1: 4 fades by 3 in the odd year, 3: 4. 1 then 0: 2 and 4: 6. Both 0 when cut.
        due("order(3, 0)", x.order(3, 0), 0);
        due("order(3, 1)", x.order(3, 1), 12);
        // 0 then 2 has 1 and 10, 2 then 0 has 8 and 4: 11 and 12, both 1 when cut.
        due("order(5, 1)", x.order(5, 1), 13);
        x.year(1);
        // The second year is even now: 0 then 2 has 4 and 10, 2 then 0 has 8 and 4; with 6 left of the chip 20 and 18.
        x.chip(1, 8);
        due("order(5, 0)", x.order(5, 0), 1);
        due("order(5, 1)", x.order(5, 1), 31);
        due("told(5)", x.told(5), NONE);
        due("told(4)", x.told(4), 1);
        due("told(15)", x.told(15), 2);
        HandedLens like = of("c10;s2 10;w0;w0;w0;w0;w0;w0;");
        due("order(31, 0): five", like.order(31, 0), 1);
        due("order(31, 1): of like ones the least", like.order(31, 1), 12345);
        due("order(62, 1)", like.order(62, 1), 23456);
        // By the last of all orders alone the strong one of kind 3 goes in two odd years: 7 and 2 are left.
        HandedLens last = of("c10;s0 99;s3 14;s3 50;s2 16;s1 3;w3;w4;w1;w0;w2;");
        last.chip(0, 1);
        due("order(31, 0)", last.order(31, 0), 0);
        due("order(31, 1)", last.order(31, 1), 54321);
    }

    private static void ground() {
        promise = 24;
        HandedLens x = of("c10;s2 30;s2 21;s2 1;");
        due("ground(3)", x.ground(3), UNKNOWN);
        due("ground(-1)", x.ground(-1), UNKNOWN);
        due("ground(1)", x.ground(1), 0);
        x.chip(0, 20);
        due("ground(1): 40 is the half of 10, 21 and 9", x.ground(1), 9);
        due("ground(0)", x.ground(0), 0);
        x.chip(0, 55);
        due("ground(2): 99", x.ground(2), 99);
        x.chip(0, 56);
        due("ground(2)", x.ground(2), NONE);
        due("told(0)", x.told(0), 10);
        HandedLens even = of("c10;s2 30;s2 2;");
        even.chip(0, 56);
        due("ground(1): 100", even.ground(1), NONE);
        even.wipe(0);
        even.chip(0, 55);
        due("ground(1): 98", even.ground(1), 98);
    }

    private static void mist() {
        promise = 25;
        HandedLens x = new HandedLens();
        due("mist(-1, 0)", x.mist(-1, 0), OUTSIDE);
        due("mist(61, 0)", x.mist(61, 0), OUTSIDE);
        due("mist(0, -1)", x.mist(0, -1), OUTSIDE);
        due("mist(0, 101)", x.mist(0, 101), OUTSIDE);
        due("mist(0, 0)", x.mist(0, 0), 1000000000);
        due("mist(1, 0)", x.mist(1, 0), 0);
        due("mist(60, 100)", x.mist(60, 100), 1000000000);
        due("mist(1, 33)", x.mist(1, 33), 330000000);
        due("mist(5, 33): cut", x.mist(5, 33), 3913539);
        due("mist(6, 33): cut each", x.mist(6, 33), 1291467);
        due("mist(60, 1)", x.mist(60, 1), 0);
    }

    private static void meet() {
        promise = 26;
        HandedLens x = of("c10;s2 30;s2 20;");
        due("meet(2, true)", x.meet(2, true), UNKNOWN);
        due("meet(-1, false)", x.meet(-1, false), UNKNOWN);
        for (int i = 1; i <= 6; i++) {
            due("meet", x.meet(i % 2, i % 3 == 0), i);
        }
        due("meet(2, true) behind six", x.meet(2, true), UNKNOWN);
        due("meet(0, true) behind six", x.meet(0, true), FULL);
        due("told(13)", x.told(13), 6);
        due("told(15): no deed", x.told(15), 0);
    }

    private static void couldBe() {
        promise = 27;
        HandedLens x = of("c10;s2 50;s2 40;s2 10;s2 8;");
        due("couldBe()", x.couldBe(), 15);
        x.chip(0, 12);
        x.meet(0, true);
        due("couldBe(): 0, 2 and 3 are taken for 0", x.couldBe(), 13);
        x.meet(2, false);
        due("couldBe()", x.couldBe(), 13);
        x.chip(1, 26);
        due("couldBe(): with the pair as it is now", x.couldBe(), 1);
        x.meet(0, false);
        due("couldBe()", x.couldBe(), 0);
        x.tear();
        x.meet(1, false);
        due("couldBe()", x.couldBe(), 1);
    }

    private static void ask() {
        promise = 28;
        HandedLens x = of("c10;s2 90;s2 80;s2 10;s2 8;s2 9;");
        due("ask(): one of five, the least", x.ask(), 0);
        x.chip(4, 10);
        // 0, 1, 2 are taken for themselves, 3 and 4 for 4
        due("ask(): the greater part is least", x.ask(), 4);
        x.meet(4, false);
        due("ask() of 0, 1, 2", x.ask(), 0);
        x.meet(0, false);
        due("ask() of 1, 2", x.ask(), 1);
        x.meet(1, false);
        due("couldBe()", x.couldBe(), 4);
        due("ask() of one", x.ask(), NONE);
        x.meet(2, false);
        due("ask() of none", x.ask(), NONE);
        x.tear();
        x.meet(4, true);
        due("ask(): none parts 3, 4", x.ask(), NONE);
        due("told(13)", x.told(13), 1);
    }

    private static void write() {
        promise = 29;
        HandedLens x = of("c10;s2 30;s2 20;");
        due("write(2, 0)", x.write(2, 0), UNKNOWN);
        due("write(0, 2)", x.write(0, 2), UNKNOWN);
        due("write(0, -1)", x.write(0, -1), UNKNOWN);
        for (int i = 1; i <= 20; i++) {
            due("write", x.write(i % 2, 0), i);
        }
        due("write(0, 0)", x.write(0, 0), FULL);
        due("write(0, 2)", x.write(0, 2), UNKNOWN);
        due("told(14)", x.told(14), 20);
        due("told(15): no deed", x.told(15), 0);
    }

    private static void judge() {
        promise = 30;
        HandedLens x = of("c10;s2 30;s2 20;");
        due("judge()", x.judge(), NONE);
        x.write(0, 0);
        x.write(1, 1);
        x.write(0, 1);
        x.write(1, 0);
        due("judge(): the first", x.judge(), 2);
        x.chip(0, 16);
        due("judge(): as it is now", x.judge(), 1);
        x.undo(1);
        due("judge()", x.judge(), 2);
    }

    private static void tear() {
        promise = 31;
        HandedLens x = of("c10;s2 30;s2 20;");
        due("tear()", x.tear(), 0);
        x.meet(0, true);
        x.meet(0, true);
        x.write(0, 1);
        due("tear()", x.tear(), 3);
        due("told(13)", x.told(13), 0);
        due("told(14)", x.told(14), 0);
        due("couldBe()", x.couldBe(), 3);
        due("judge()", x.judge(), NONE);
        due("meet(1, true)", x.meet(1, true), 1);
        due("write(1, 1)", x.write(1, 1), 1);
    }

    private static void seed() {
        promise = 32;
        HandedLens x = new HandedLens();
        due("seed(-1)", x.seed(-1), OUTSIDE);
        due("seed(LEAST)", x.seed(LEAST), OUTSIDE);
        due("seed(MOST)", x.seed(MOST), 0);
        due("seed(3)", x.seed(3), MOST);
        due("seed(0)", x.seed(0), 3);
        HandedLens y = of("c1;");
        y.seed(MOST);
        y.drift(1);
        due("seed(0) behind a draw of the greatest", y.seed(0), next(MOST));
    }

    private static void keep() {
        promise = 33;
        HandedLens x = of("c10;s2 30;s2 20;w0;");
        due("keep(-1)", x.keep(-1), UNKNOWN);
        due("keep(2)", x.keep(2), UNKNOWN);
        x.chip(0, 9);
        due("keep(0)", x.keep(0), 1);
        due("told(15): nothing can be undone", x.told(15), 0);
        due("undo(1)", x.undo(1), NOT);
        x.chip(1, 9);
        due("undo(1)", x.undo(1), 0);
        due("told(6)", x.told(6), 1);
        due("keep(2)", x.keep(2), UNKNOWN);
        x.wear(0);
        x.year(2);
        due("keep(0) again", x.keep(0), 1);
        x.year(2);
        x.goBack(0);
        due("told(4): the later one", x.told(4), 2);
    }

    private static void goBack() {
        promise = 34;
        HandedLens x = of("c10;s2 30;s2 20;w0;");
        due("goBack(2)", x.goBack(2), UNKNOWN);
        due("goBack(-1)", x.goBack(-1), UNKNOWN);
        due("goBack(1)", x.goBack(1), NOT);
        x.wear(0);
        x.year(22);
        x.seed(5);
        x.keep(1);
        due("goBack(0)", x.goBack(0), NOT);
        x.year(30);
        x.takeOff();
        x.wipe(0);
        x.seed(6);
        x.meet(0, true);
        x.write(0, 0);
        due("goBack(1)", x.goBack(1), 1);
        due("told(4)", x.told(4), 22);
        due("told(5)", x.told(5), 0);
        due("told(6)", x.told(6), 1);
        due("layer(0, 2)", x.layer(0, 2), 88);
        due("wearer(0, 1)", x.wearer(0, 1), 22);
        due("logged(0, 0)", x.logged(0, 0), 21);
        due("logged(19, 0)", x.logged(19, 0), 2);
        due("told(13) stays", x.told(13), 1);
        due("told(14) stays", x.told(14), 1);
        due("told(15)", x.told(15), 0);
        due("undo(1)", x.undo(1), NOT);
        due("seed(8)", x.seed(8), 5);
        x.year(1);
        due("goBack(1) again", x.goBack(1), 1);
        due("told(4): the image stays", x.told(4), 22);
        due("seed(8)", x.seed(8), 5);
    }
}
