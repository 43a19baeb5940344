/** Promises 5 to 14 and section 2 of the terms: each sentence that names an edge, in the document's order. */
public final class PairEdges {
    private static final int NONE = -1, UNKNOWN = -1000000001, OUTSIDE = -1000000002, NOT = -1000000003, FULL = -1000000004;
    private static final int LEAST = Integer.MIN_VALUE, MOST = Integer.MAX_VALUE;

    private PairEdges() {
    }

    public static void main(String[] args) {
        refusalsAreFarBelow();
        told();
        scene();
        wearer();
        layer();
        logged();
        noneAtFirst();
        tenLayers();
        tenLayersInAYear();
        aboveHalf();
        strongestHighest();
        looksInTurn();
        theLog();
        looksAheadOfGaining();
        gains();
        ownLayer();
        ninetyNine();
        fadeByOne();
        fadeByATenth();
        fadeNotAtAll();
        fadeInOddYears();
        gone();
        allOthersFade();
        goesAheadOfFading();
        years();
        yearsAreRefused();
        worn();
        takenOff();
        wiped();
        chipped();
        strengthsStayWithin();
        goneLeavesNothing();
        Sheet.end();
    }

    /** A pair with so many chips of scene 0, each so strong. */
    private static Lens chips(String text, int... strengths) {
        Lens x = Lens.of(text);
        for (int strength : strengths) {
            x.call("chip(0, " + strength + ")");
        }
        return x;
    }

    private static void refusalsAreFarBelow() {
        Sheet.holds("They are far below all that is counted: -1000000001 and on.");
        Sheet.due("NONE", HandedLens.NONE, -1);
        Sheet.due("UNKNOWN", HandedLens.UNKNOWN, -1000000001);
        Sheet.due("OUTSIDE", HandedLens.OUTSIDE, -1000000002);
        Sheet.due("NOT", HandedLens.NOT, -1000000003);
        Sheet.due("FULL", HandedLens.FULL, -1000000004);
    }

    private static void told() {
        Sheet.holds("0 C (0 without a LINE), 1 SCENES, 2 WEARERS, 3 letters of THE TEXT, 4 YEARS, 5 who wears it (NONE), 6 LAYERS, "
                + "7 DARK now, 8 SEEN BY ALL, 9 EYES, 10 STRONGEST, 11 THICK, 12 how many THE LOG has, 13 what is MET, "
                + "14 entries of THE BOOK, 15 how many can be undone. OUTSIDE.");
        Lens none = new Lens();
        none.asks("told(0)", 0).asks("told(-1)", OUTSIDE).asks("told(16)", OUTSIDE);
        Lens x = Lens.of("c17;s2 90;s2 80;s2 70;w0,1;w0;");
        x.calls("chip(2, 21)", "chip(2, 22)", "wear(1)", "year(1)", "wear(0)", "year(2)", "meet(0, true)", "meet(1, false)",
                "write(0, 0)", "write(1, 1)", "write(2, 2)", "feed(99)", "feed(49)", "feed(59)", "feed(32)");
        // chips of 21 and 22, then 10 of the second one, 10 and 9 of the first: 72
        int[] want = {17, 3, 2, 4, 3, 0, 5, 7, 1, 2, 1, 2, 3, 2, 3, 7};
        for (int what = 0; what < want.length; what++) {
            x.asks("told(" + what + ")", want[what]);
        }
        for (int what : new int[] {-1, 16, LEAST, MOST}) {
            x.asks("told(" + what + ")", OUTSIDE);
        }
    }

    private static void scene() {
        Sheet.holds("Of a SCENE: what = 0 KIND, 1 BRIGHT, 2 above how much a LAYER must be strong to be taken for it, 3 LOOK FOR. "
                + "UNKNOWN, OUTSIDE.");
        Lens x = Lens.of("c9;s3 99;s1 8;");
        x.asks("scene(0, 0)", 3).asks("scene(0, 1)", 99).asks("scene(0, 2)", 54).asks("scene(0, 3)", 1);
        x.asks("scene(1, 0)", 1).asks("scene(1, 1)", 8).asks("scene(1, 2)", 8).asks("scene(1, 3)", 2);
        for (int scene : new int[] {-1, 2, 8, LEAST, MOST}) {
            x.asks("scene(" + scene + ", 0)", UNKNOWN).asks("scene(" + scene + ", 4)", UNKNOWN).asks("scene(" + scene + ", -1)", UNKNOWN);
        }
        for (int what : new int[] {-1, 4, LEAST, MOST}) {
            x.asks("scene(1, " + what + ")", OUTSIDE);
        }
        Lens.of("c1;s0 1;").asks("scene(0, 2)", 1);
        Lens.of("c99;s0 99;").asks("scene(0, 2)", 99);
        Lens.of("c99;s0 98;").asks("scene(0, 2)", 98);
        Lens.of("c1;s0 2;").asks("scene(0, 2)", 1);
    }

    private static void wearer() {
        Sheet.holds("Of a WEARER: what = 0 how many SCENES told, 1 his YEARS, 2 SAW, 3 KIN (NONE), 4 NEXT SIGHT. UNKNOWN, OUTSIDE.");
        Lens x = Lens.of("c9;s3 99;s1 8;w1,0,1;w1;");
        x.asks("wearer(0, 0)", 3).asks("wearer(0, 1)", 0).asks("wearer(0, 2)", 0).asks("wearer(0, 3)", NONE).asks("wearer(0, 4)", 1);
        for (int w : new int[] {-1, 2, 6, LEAST, MOST}) {
            x.asks("wearer(" + w + ", 0)", UNKNOWN).asks("wearer(" + w + ", 5)", UNKNOWN).asks("wearer(" + w + ", -1)", UNKNOWN);
        }
        for (int what : new int[] {-1, 5, LEAST, MOST}) {
            x.asks("wearer(1, " + what + ")", OUTSIDE);
        }
    }

    private static void layer() {
        Sheet.holds("Of a LAYER: what = 0 SCENE, 1 WEARER (NONE), 2 STRENGTH. UNKNOWN, OUTSIDE.");
        Lens x = Lens.of("c9;s3 99;s1 8;w1;");
        x.asks("layer(0, 0)", UNKNOWN).asks("layer(0, 3)", UNKNOWN).asks("layer(0, -1)", UNKNOWN);
        x.calls("chip(0, 7)", "wear(0)", "year(1)");
        x.asks("layer(0, 0)", 0).asks("layer(0, 1)", NONE).asks("layer(0, 2)", 7);
        x.asks("layer(1, 0)", 1).asks("layer(1, 1)", 0).asks("layer(1, 2)", 1);
        for (int k : new int[] {-1, 2, 10, LEAST, MOST}) {
            x.asks("layer(" + k + ", 0)", UNKNOWN).asks("layer(" + k + ", 3)", UNKNOWN);
        }
        for (int what : new int[] {-1, 3, LEAST, MOST}) {
            x.asks("layer(1, " + what + ")", OUTSIDE);
        }
        Lens full = chips("c9;s2 9;", 1, 2, 3, 4, 5, 6, 7, 8, 9, 10);
        full.asks("layer(9, 2)", 10).asks("layer(10, 2)", UNKNOWN);
    }

    private static void logged() {
        Sheet.holds("Of THE LOG, 0 the latest: what = 0 YEAR, 1 WEARER, 2 SCENE, 3 TAKEN FOR; NONE. OUTSIDE (what).");
        Lens x = Lens.of("c9;s3 99;s1 8;w1;");
        x.asks("logged(0, 0)", NONE).asks("logged(0, 3)", NONE).asks("logged(0, 4)", OUTSIDE).asks("logged(0, -1)", OUTSIDE);
        x.calls("year(3)", "wear(0)", "chip(0, 50)", "year(2)");
        x.logged(0, 4, 0, 1, 0).logged(1, 3, 0, 1, 0);
        for (int i : new int[] {2, 19, 20, -1, LEAST, MOST}) {
            for (int what = 0; what < 4; what++) {
                x.asks("logged(" + i + ", " + what + ")", NONE);
            }
            x.asks("logged(" + i + ", 4)", OUTSIDE).asks("logged(" + i + ", -1)", OUTSIDE);
        }
        for (int what : new int[] {-1, 4, LEAST, MOST}) {
            x.asks("logged(1, " + what + ")", OUTSIDE);
        }
    }

    private static void noneAtFirst() {
        Sheet.holds("It is worn by a WEARER, or by nobody (at first).");
        Lens x = Lens.of("c9;s3 99;w0;");
        x.asks("told(5)", NONE).asks("takeOff()", NOT);
        Sheet.holds("THE PAIR has LAYERS (10 at most; none at first), as they were laid, 0 the lowest:");
        x.asks("told(6)", 0).asks("layer(0, 0)", UNKNOWN).asks("wipe(0)", UNKNOWN);
        x.calls("chip(0, 5)", "chip(0, 4)", "wear(0)", "year(1)");
        x.layer(0, 0, NONE, 5).layer(1, 0, NONE, 4).layer(2, 0, 0, 10);
    }

    private static void tenLayers() {
        Sheet.holds("if there are 10, the weakest one goes ahead of that (of like ones the lowest).");
        Lens x = chips("c9;s2 9;s2 8;", 9, 8, 5, 6, 7, 5, 6, 5, 8);
        x.is("told(6)", 9).does("chip(0, 9)", 10).strengths(9, 8, 5, 6, 7, 5, 6, 5, 8, 9);
        x.does("chip(1, 50)", 10).strengths(9, 8, 6, 7, 5, 6, 5, 8, 9, 50).layer(9, 1, NONE, 50);
        x.does("chip(1, 1)", 10).strengths(9, 8, 6, 7, 6, 5, 8, 9, 50, 1);
        // it goes ahead of that: what is laid is not weighed, the weakest that was there goes
        x.does("chip(0, 2)", 10).strengths(9, 8, 6, 7, 6, 5, 8, 9, 50, 2);
        x.does("undo(1)", 0).strengths(9, 8, 6, 7, 6, 5, 8, 9, 50, 1);
        Lens like = chips("c9;s2 9;s2 8;", 99, 99, 99, 99, 99, 99, 99, 99, 99, 99);
        like.does("chip(1, 1)", 10).strengths(99, 99, 99, 99, 99, 99, 99, 99, 99, 1).does("chip(1, 99)", 10).layer(9, 1, NONE, 99).layer(8, 0, NONE, 99);
        Lens ends = chips("c9;s2 9;", 1, 3, 3, 3, 3, 3, 3, 3, 3, 2);
        ends.does("chip(0, 4)", 10).strengths(3, 3, 3, 3, 3, 3, 3, 3, 2, 4).does("chip(0, 5)", 10).strengths(3, 3, 3, 3, 3, 3, 3, 3, 4, 5);
    }

    private static void tenLayersInAYear() {
        Sheet.holds("else it is laid, so strong, above all; if there are 10, the weakest one goes ahead of that (of like ones the lowest).");
        Lens x = chips("c9;s2 9;s2 28;w1,0;", 9, 9, 4, 9, 4, 9, 9, 9, 9);
        x.does("wear(0)", NONE).does("year(1)", 1).strengths(9, 9, 4, 9, 4, 9, 9, 9, 9, 3).layer(9, 1, 0, 3);
        // there are ten: his own of the year ahead is the weakest and goes for that of this year
        x.does("year(1)", 2).strengths(9, 9, 4, 9, 4, 9, 9, 9, 9, 1).layer(9, 0, 0, 1);
        x.does("year(1)", 3).strengths(9, 9, 4, 9, 4, 9, 9, 9, 9, 3).layer(9, 1, 0, 3);
        Lens lowest = chips("c9;s2 9;s2 28;w1;", 9, 4, 8, 4, 9, 4, 9, 9, 9, 9);
        lowest.calls("wear(0)", "year(1)");
        lowest.strengths(9, 8, 4, 9, 4, 9, 9, 9, 9, 3).layer(9, 1, 0, 3);
        Sheet.holds("Then his LAYER of that SCENE, if he has one, is stronger by BRIGHT / 10, and 1 (99 at most);");
        // there are ten and he has one: none goes
        Lens y = chips("c9;s2 9;s2 28;w1;", 9, 9, 4, 9, 4, 9, 9, 9, 9);
        y.calls("wear(0)", "year(2)");
        y.strengths(9, 9, 4, 9, 4, 9, 9, 9, 9, 6);
    }

    private static void aboveHalf() {
        Sheet.holds("whose STRENGTH is above half of what C and BRIGHT of the SCENE looked at are together (cut); else for itself.");
        // 10 and 30: half is 20; 10 and 21: 15 when cut
        Lens x = chips("c10;s2 99;s2 30;s2 21;", 15);
        x.asks("takes(1)", 1).asks("takes(2)", 2).does("chip(0, 16)", 2).asks("takes(1)", 1).asks("takes(2)", 0);
        x.does("chip(0, 20)", 3).asks("takes(1)", 1).does("chip(0, 21)", 4).asks("takes(1)", 0).asks("takes(0)", 0);
        // 99 and 99: half is 99, and no layer is above
        Lens clear = chips("c99;s2 1;s2 99;s2 98;", 99);
        clear.asks("takes(1)", 1).asks("takes(2)", 0).asks("takes(0)", 0);
        // 1 and 1: half is 1
        Lens dim = chips("c1;s2 9;s2 1;", 1);
        dim.asks("takes(1)", 1).does("chip(0, 2)", 2).asks("takes(1)", 0);
        // it is BRIGHT of the scene looked at, not of the layer's
        Lens looked = Lens.of("c2;s2 90;s2 4;");
        looked.does("chip(0, 4)", 1).asks("takes(1)", 0).does("wipe(0)", 0).does("chip(1, 40)", 1).asks("takes(0)", 0).does("chip(1, 47)", 2).asks("takes(0)", 1);
    }

    private static void strongestHighest() {
        Sheet.holds("a SCENE is TAKEN FOR that of the strongest LAYER (of like ones the highest)");
        Lens x = Lens.of("c2;s2 9;s2 8;s2 7;s2 6;");
        x.asks("takes(3)", 3);
        x.does("chip(0, 50)", 1).asks("takes(3)", 0).does("chip(1, 49)", 2).asks("takes(3)", 0).does("chip(2, 50)", 3).asks("takes(3)", 2);
        x.does("chip(1, 51)", 4).asks("takes(3)", 1).does("chip(0, 50)", 5).asks("takes(3)", 1).does("wipe(3)", 4).asks("takes(3)", 0);
        x.does("wipe(3)", 3).asks("takes(3)", 2).does("wipe(2)", 2).asks("takes(3)", 0).does("wipe(0)", 1).asks("takes(3)", 1).does("wipe(0)", 0).asks("takes(3)", 3);
    }

    private static void looksInTurn() {
        Sheet.holds("its WEARER looks at the SCENE of his YEARS (how many he has had: the one of these left over by how many he has told)");
        Lens x = Lens.of("c50;s2 9;s2 8;s2 7;w2,0,1;w1;w0,1,2,2,1,0;");
        x.calls("year(2)", "wear(0)", "year(7)", "wear(1)", "year(2)", "wear(0)", "year(1)");
        int[] scenes = {0, 1, 1, 2, 1, 0, 2, 1, 0, 2};
        int[] wearers = {0, 1, 1, 0, 0, 0, 0, 0, 0, 0};
        for (int i = 0; i < scenes.length; i++) {
            x.logged(i, 11 - i, wearers[i], scenes[i], scenes[i]);
        }
        x.is("wearer(0, 1)", 8).is("wearer(1, 1)", 2).is("wearer(2, 1)", 0).is("told(4)", 12);
        x.does("wear(2)", 0).does("year(13)", 25);
        int[] six = {0, 0, 1, 2, 2, 1, 0, 0, 1, 2, 2, 1, 0};
        for (int i = 0; i < six.length; i++) {
            x.is("logged(" + i + ", 2)", six[i]);
        }
        x.is("wearer(2, 1)", 13);
        // the sixth one too
        Lens sixth = Lens.of("c50;s2 9;s2 8;w0;w0;w0;w0;w0;w0,1,1;");
        sixth.calls("wear(5)", "year(4)");
        sixth.is("wearer(5, 1)", 4).is("wearer(5, 4)", 1).logged(0, 3, 5, 0, 0).logged(1, 2, 5, 1, 1);
    }

    private static void theLog() {
        Sheet.holds("THE LOG keeps the latest 20: YEAR, WEARER, SCENE, TAKEN FOR.");
        Lens x = Lens.of("c50;s2 9;s2 8;w0,1;w1;");
        x.calls("wear(0)", "year(19)");
        x.is("told(12)", 19).asks("logged(19, 0)", NONE).logged(18, 0, 0, 0, 0);
        x.does("year(1)", 20).is("told(12)", 20).logged(19, 0, 0, 0, 0).logged(0, 19, 0, 1, 1).asks("logged(20, 0)", NONE);
        x.does("year(1)", 21).is("told(12)", 20).logged(19, 1, 0, 1, 1).logged(0, 20, 0, 0, 0).asks("logged(20, 0)", NONE);
        // nobody looks: it keeps none of these years
        x.does("takeOff()", 0).does("year(5)", 26).is("told(12)", 20).logged(19, 1, 0, 1, 1).logged(0, 20, 0, 0, 0);
        x.does("wear(1)", NONE).does("year(30)", 56).is("told(12)", 20).logged(19, 36, 1, 1, 1).logged(0, 55, 1, 1, 1);
        // twice round, and the latest is still the latest
        x.does("wear(0)", 1).does("year(11)", 67).logged(0, 66, 0, 1, 1).logged(10, 56, 0, 1, 1).logged(11, 55, 1, 1, 1).logged(19, 47, 1, 1, 1);
    }

    private static void looksAheadOfGaining() {
        Sheet.holds("A YEAR: if THE PAIR is worn, its WEARER looks at the SCENE of his YEARS");
        // he looks, then his layer gains: his own of scene 1 comes to 10 in the first year, and is seen in the second
        Lens x = Lens.of("c2;s2 9;s2 99;w1,0;");
        x.calls("wear(0)", "year(2)");
        x.logged(1, 0, 0, 1, 1).logged(0, 1, 0, 0, 1);
        // a chip of 6 on scene 0 is above half of 2 and 9, that is 5; it fades to 5 behind the look
        Lens y = Lens.of("c2;s2 9;s0 9;w0;");
        y.calls("chip(1, 6)", "wear(0)", "year(2)");
        y.logged(1, 0, 0, 0, 1).logged(0, 1, 0, 0, 0);
        // what the log has stays as it was seen then
        y.does("chip(1, 99)", 3).logged(0, 1, 0, 0, 0).does("wipe(2)", 2).logged(1, 0, 0, 0, 1);
    }

    private static void gains() {
        Sheet.holds("is stronger by BRIGHT / 10, and 1 (99 at most); else it is laid, so strong, above all;");
        int[] brights = {1, 9, 10, 11, 19, 20, 89, 90, 99};
        int[] by = {1, 1, 2, 2, 2, 3, 9, 10, 10};
        for (int i = 0; i < brights.length; i++) {
            Lens x = Lens.of("c2;s0 " + brights[i] + ";w0;");
            x.calls("wear(0)", "year(1)");
            x.strengths(by[i]).does("year(1)", 2).strengths(2 * by[i]).does("year(1)", 3).strengths(3 * by[i]);
        }
    }

    private static void ownLayer() {
        Sheet.holds("Then his LAYER of that SCENE, if he has one,");
        // neither a chip of the scene, nor another's layer of it, nor his own of another scene is his of that scene
        Lens x = Lens.of("c2;s2 30;s2 40;w0,1;w0;");
        x.calls("chip(0, 8)", "wear(0)", "year(1)", "wear(1)", "year(1)");
        x.layer(0, 0, NONE, 8).layer(1, 0, 0, 4).layer(2, 0, 1, 4).is("told(6)", 3);
        x.does("wear(0)", 1).does("year(1)", 3).layer(3, 1, 0, 5).is("told(6)", 4);
        x.does("year(1)", 4).layer(1, 0, 0, 8).is("told(6)", 4).does("year(1)", 5).layer(3, 1, 0, 10).is("told(6)", 4);
        // it stays at its place when it gains; wiped, it is laid above all
        x.does("wipe(1)", 3).does("year(1)", 6).is("told(6)", 4).layer(3, 0, 0, 4).layer(2, 1, 0, 10);
        // a scene told twice is one scene, with one layer
        Lens twice = Lens.of("c2;s2 30;w0,0,0;");
        twice.calls("wear(0)", "year(3)");
        twice.strengths(12);
    }

    private static void ninetyNine() {
        Sheet.holds("(99 at most)");
        Lens x = Lens.of("c2;s2 99;s2 10;w0;w1;");
        x.calls("wear(0)", "year(9)");
        x.strengths(90).does("year(1)", 10).strengths(99).does("year(1)", 11).strengths(99).is("told(7)", 9);
        x.calls("wear(1)", "year(30)", "year(19)");
        x.strengths(99, 98).does("year(1)", 61).strengths(99, 99).does("year(1)", 62).strengths(99, 99);
        // 99 just so
        Lens y = Lens.of("c2;s2 1;w0;");
        y.calls("wear(0)", "year(30)", "year(30)", "year(30)", "year(8)");
        y.strengths(98).does("year(1)", 99).strengths(99).does("year(1)", 100).strengths(99);
    }

    private static void fadeByOne() {
        Sheet.holds("FADE, by KIND of their SCENE: 0 by 1;");
        Lens x = chips("c2;s0 50;", 99, 20, 10, 3, 2, 1);
        x.does("year(1)", 1).strengths(98, 19, 9, 2, 1).does("year(1)", 2).strengths(97, 18, 8, 1).does("year(1)", 3).strengths(96, 17, 7);
    }

    private static void fadeByATenth() {
        Sheet.holds("1 by a tenth (cut), and 1;");
        Lens x = chips("c2;s1 50;", 99, 91, 90, 89, 20, 19, 11, 10, 9, 2);
        x.does("year(1)", 1).strengths(89, 81, 80, 80, 17, 17, 9, 8, 8, 1);
        x.does("year(1)", 2).strengths(80, 72, 71, 71, 15, 15, 8, 7, 7);
        chips("c2;s1 50;", 1).does("year(1)", 1).strengths();
    }

    private static void fadeNotAtAll() {
        Sheet.holds("2 not at all;");
        Lens x = chips("c2;s2 50;", 99, 10, 3, 1);
        x.does("year(1)", 1).strengths(99, 10, 3, 1).does("year(30)", 31).strengths(99, 10, 3, 1);
    }

    private static void fadeInOddYears() {
        Sheet.holds("3 by 3, if the number of the YEAR is odd.");
        Lens x = chips("c2;s3 50;", 99, 7, 6, 5, 4, 3, 2, 1);
        x.does("year(1)", 1).strengths(99, 7, 6, 5, 4, 3, 2, 1);
        x.does("year(1)", 2).strengths(96, 4, 3, 2, 1);
        x.does("year(1)", 3).strengths(96, 4, 3, 2, 1);
        x.does("year(1)", 4).strengths(93, 1);
        x.does("undo(1)", 3).does("chip(0, 50)", 6).does("year(1)", 4).strengths(93, 1, 47);
        // the number is the line's, not the wearer's
        Lens y = Lens.of("c2;s3 50;s2 9;w1;");
        y.calls("year(1)", "wear(0)", "chip(0, 40)", "year(1)");
        y.strengths(37, 1).does("year(1)", 3).strengths(37, 2);
    }

    private static void gone() {
        Sheet.holds("One that has come to 0 is gone.");
        Lens x = Lens.of("c2;s0 50;s1 40;s2 30;s3 20;");
        x.calls("chip(0, 1)", "chip(2, 11)", "chip(1, 1)", "chip(0, 1)", "chip(3, 12)", "chip(0, 2)", "chip(1, 1)");
        x.does("year(1)", 1).is("told(6)", 3).layer(0, 2, NONE, 11).layer(1, 3, NONE, 12).layer(2, 0, NONE, 1).asks("layer(3, 0)", UNKNOWN);
        x.does("year(1)", 2).is("told(6)", 2).layer(0, 2, NONE, 11).layer(1, 3, NONE, 9);
        // one that would come below 0 is gone too: 2 less 3
        Lens y = chips("c2;s3 50;", 2, 4, 1);
        y.does("year(2)", 2).strengths(1);
        // all of ten at once
        Lens all = chips("c2;s0 50;", 1, 1, 1, 1, 1, 1, 1, 1, 1, 1);
        all.does("year(1)", 1).strengths().is("told(7)", 0).is("told(10)", NONE).is("told(9)", NONE).is("told(11)", 0);
    }

    private static void allOthersFade() {
        Sheet.holds("All other LAYERS (all, if nobody wears it) FADE,");
        // his of the scene he looks at does not; his of others, others' and chips of that scene do
        Lens x = Lens.of("c2;s0 30;s0 40;w0,1;w0;");
        x.calls("chip(0, 9)", "wear(1)", "year(1)", "wear(0)", "year(1)");
        x.layer(0, 0, NONE, 7).layer(1, 0, 1, 3).layer(2, 0, 0, 4);
        x.does("year(1)", 3).layer(0, 0, NONE, 6).layer(1, 0, 1, 2).layer(2, 0, 0, 3).layer(3, 1, 0, 5);
        x.does("year(1)", 4).layer(2, 0, 0, 7).layer(3, 1, 0, 4).is("told(6)", 4);
        // nobody wears it: the other one's 1 is gone, and all above come down
        x.does("takeOff()", 0).does("year(1)", 5).is("told(6)", 3).layer(0, 0, NONE, 4).layer(1, 0, 0, 6).layer(2, 1, 0, 3);
    }

    private static void goesAheadOfFading() {
        Sheet.holds("the weakest one goes ahead of that");
        // ten: 1 is the weakest and goes for his, then the others fade: nine are left with his, not eight
        Lens x = chips("c2;s0 30;s2 5;w1;", 1, 2, 2, 9, 9, 9, 9, 9, 9, 9);
        x.calls("wear(0)", "year(1)");
        x.strengths(1, 1, 8, 8, 8, 8, 8, 8, 8, 1);
        x.does("year(1)", 2).strengths(7, 7, 7, 7, 7, 7, 7, 2);
    }

    private static void years() {
        Sheet.holds("n YEARS (1 .. 30): YEARS.");
        Lens x = Lens.of("c9;s0 44;s1 33;s3 22;w0,1,2;w2,1;");
        x.calls("chip(2, 60)", "chip(1, 70)", "wear(1)");
        Lens y = x.again();
        x.does("year(7)", 7);
        for (int i = 1; i <= 7; i++) {
            y.does("year(1)", i);
        }
        x.isAs(y, "seven years at once");
        x.does("year(30)", 37).does("year(1)", 38);
        Sheet.holds("His YEARS are one more.");
        x.is("wearer(1, 1)", 38).is("wearer(0, 1)", 0);
        Sheet.holds("YEARS of THE LINE are one more.");
        x.is("told(4)", 38).does("takeOff()", 1).does("year(2)", 40).is("told(4)", 40).is("wearer(1, 1)", 38);
        Lens bare = Lens.of("c1;");
        bare.does("year(30)", 30).is("told(12)", 0).is("told(15)", 30);
    }

    private static void yearsAreRefused() {
        Sheet.holds("`int year(int n)`: n YEARS (1 .. 30): YEARS. OUTSIDE, NOT: no LINE; FULL: YEARS are above 90000.");
        Lens x = Lens.of("c9;s0 44;w0;");
        x.calls("wear(0)", "year(3)");
        for (int n : new int[] {0, 31, -1, LEAST, MOST}) {
            x.asks("year(" + n + ")", OUTSIDE);
        }
        Lens none = new Lens();
        none.asks("year(1)", NOT).asks("year(30)", NOT).asks("year(0)", OUTSIDE).asks("year(31)", OUTSIDE);
        none.feed("c9;");
        none.asks("year(1)", NOT);
        // The one way there is far beyond 512 calls, where all is free: so this end is not held by count of calls.
        HandedLens old = new HandedLens();
        for (char letter : "c9;s0 44;w0;".toCharArray()) {
            old.feed(letter);
        }
        old.line();
        for (int i = 0; i < 2999; i++) {
            old.year(30);
        }
        Sheet.due("year(29)", old.year(29), 89999);
        Sheet.due("year(1)", old.year(1), 90000);
        Sheet.due("year(31) at 90000", old.year(31), OUTSIDE);
        Sheet.due("year(30) at 90000", old.year(30), 90030);
        Sheet.due("year(1) at 90030", old.year(1), FULL);
        Sheet.due("year(0) at 90030", old.year(0), OUTSIDE);
        Sheet.due("drift(1) at 90030", old.drift(1), FULL);
        Sheet.due("drift(31) at 90030", old.drift(31), OUTSIDE);
        Sheet.due("seed(0): it drew nothing", old.seed(0), 0);
        Sheet.due("told(15)", old.told(15), 30);
        Sheet.due("undo(29)", old.undo(29), 90001);
        Sheet.due("year(1) at 90001", old.year(1), FULL);
        Sheet.due("drift(1) at 90001", old.drift(1), FULL);
        Sheet.due("undo(1)", old.undo(1), 90000);
        Sheet.due("drift(1) at 90000", old.drift(1), 90001);
        Sheet.due("told(4)", old.told(4), 90001);
    }

    private static void worn() {
        Sheet.holds("`int wear(int w)`: WORN: who wore it (NONE). UNKNOWN, NOT: he wears it.");
        Lens x = Lens.of("c9;s0 44;w0;w0;w0;w0;w0;w0;");
        for (int w : new int[] {-1, 6, LEAST, MOST}) {
            x.asks("wear(" + w + ")", UNKNOWN);
        }
        x.does("wear(5)", NONE).is("told(5)", 5).asks("wear(5)", NOT).asks("wear(-1)", UNKNOWN).asks("wear(6)", UNKNOWN);
        Sheet.holds("WORN by a WEARER; TAKEN OFF.");
        x.does("wear(0)", 5).is("told(5)", 0).asks("wear(0)", NOT).does("wear(5)", 0).does("takeOff()", 5).does("wear(5)", NONE);
        x.is("told(15)", 5).is("told(4)", 0).is("told(6)", 0).is("wearer(5, 1)", 0);
        Lens none = Lens.of("c9;s0 44;");
        none.asks("wear(0)", UNKNOWN).asks("wear(-1)", UNKNOWN);
    }

    private static void takenOff() {
        Sheet.holds("`int takeOff()`: TAKEN OFF: who wore it. NOT: nobody.");
        Lens x = Lens.of("c9;s2 44;w0;w0;");
        x.asks("takeOff()", NOT).does("wear(0)", NONE).does("takeOff()", 0).is("told(5)", NONE).asks("takeOff()", NOT);
        x.does("wear(1)", NONE).does("year(1)", 1).does("takeOff()", 1).asks("takeOff()", NOT).does("year(1)", 2);
        x.is("told(12)", 1).is("told(15)", 6).is("wearer(1, 1)", 1).strengths(5);
    }

    private static void wiped() {
        Sheet.holds("`int wipe(int k)`: WIPED: LAYERS that are left. UNKNOWN.");
        Lens x = chips("c9;s2 44;", 1, 2, 3, 4, 5, 6, 7, 8, 9, 10);
        for (int k : new int[] {-1, 10, 11, LEAST, MOST}) {
            x.asks("wipe(" + k + ")", UNKNOWN);
        }
        Sheet.holds("WIPED: a LAYER is gone.");
        x.does("wipe(9)", 9).asks("wipe(9)", UNKNOWN).strengths(1, 2, 3, 4, 5, 6, 7, 8, 9);
        x.does("wipe(0)", 8).strengths(2, 3, 4, 5, 6, 7, 8, 9).does("wipe(3)", 7).strengths(2, 3, 4, 6, 7, 8, 9);
        for (int left = 6; left >= 0; left--) {
            x.does("wipe(0)", left);
        }
        x.asks("wipe(0)", UNKNOWN).asks("wipe(-1)", UNKNOWN).is("told(15)", 20).does("chip(0, 9)", 1).strengths(9);
    }

    private static void chipped() {
        Sheet.holds("CHIPPED: a LAYER of a SCENE, of NONE, so strong (1 .. 99), is laid above all (as in a YEAR, if there are 10).");
        Lens x = Lens.of("c9;s2 44;s2 33;w1;");
        x.does("chip(0, 1)", 1).does("chip(1, 99)", 2).layer(0, 0, NONE, 1).layer(1, 1, NONE, 99);
        // one more of the same scene is one more layer
        x.does("chip(0, 1)", 3).layer(2, 0, NONE, 1).is("told(15)", 3).is("told(4)", 0).is("told(12)", 0);
        Sheet.holds("`int chip(int x, int n)`: CHIPPED (n 1 .. 99): LAYERS. UNKNOWN, OUTSIDE.");
        for (int n : new int[] {0, 100, -1, LEAST, MOST}) {
            x.asks("chip(1, " + n + ")", OUTSIDE);
        }
        for (int scene : new int[] {-1, 2, LEAST, MOST}) {
            x.asks("chip(" + scene + ", 1)", UNKNOWN).asks("chip(" + scene + ", 0)", UNKNOWN).asks("chip(" + scene + ", 100)", UNKNOWN);
        }
        Lens full = chips("c9;s2 44;", 9, 9, 9, 9, 9, 9, 9, 9, 9, 9);
        full.asks("chip(0, 0)", OUTSIDE).asks("chip(0, 100)", OUTSIDE).asks("chip(1, 5)", UNKNOWN).does("chip(0, 5)", 10);
    }

    private static void strengthsStayWithin() {
        Sheet.holds("of each its SCENE, its WEARER (NONE: a chip), STRENGTH (1 .. 99).");
        for (int seed = 1; seed < 2000000000; seed += 99999989) {
            Lens x = Lens.of("c9;s0 99;s1 98;s2 97;s3 96;w0,1;w2,3;w2;");
            x.call("seed(" + seed + ")");
            for (int i = 0; i < 8; i++) {
                x.call("drift(" + (i + 1) + ")");
                int layers = x.call("told(6)");
                Sheet.due("told(6) is 10 at most", layers >= 0 && layers <= 10 ? 1 : 0, 1);
                for (int k = 0; k < layers; k++) {
                    int strength = x.call("layer(" + k + ", 2)");
                    int scene = x.call("layer(" + k + ", 0)");
                    int wearer = x.call("layer(" + k + ", 1)");
                    Sheet.due("layer(" + k + ", 2) is 1 .. 99", strength >= 1 && strength <= 99 ? 1 : 0, 1);
                    Sheet.due("layer(" + k + ", 0) is a scene", scene >= 0 && scene < 4 ? 1 : 0, 1);
                    Sheet.due("layer(" + k + ", 1) is a wearer or NONE", wearer >= NONE && wearer < 3 ? 1 : 0, 1);
                }
            }
        }
    }

    /** What is asked of a pair of which layers are gone, and of one that never had them. */
    private static final String[] QUESTIONS = {
        "only(0, 0)", "only(0, 1)", "only(1, 1)", "only(2, 1)", "toWipe(1, 1)", "toWipe(2, 1)", "toWipe(3, 1)", "takes(0)", "takes(1)",
        "ground(0)", "ground(1)", "dark(0)", "dark(9)", "tooDark(2)", "willShow(0, 0)", "willShow(1, 3)", "order(3, 0)", "order(3, 1)"};

    private static void goneLeavesNothing() {
        String text = "c9;s2 20;s0 30;w0;w1,0;";
        Sheet.holds("WIPED: a LAYER is gone.");
        for (int kept = 0; kept <= 9; kept++) {
            Lens used = Lens.of(text);
            Lens made = Lens.of(text);
            for (int k = 0; k < 10; k++) {
                String chip = "chip(" + k % 2 + ", " + (k < kept ? 16 + k : 60 + k) + ")";
                used.call(chip);
                if (k < kept) {
                    made.call(chip);
                }
            }
            for (int k = 9; k >= kept; k--) {
                used.call("wipe(" + k + ")");
            }
            sameAnswers(used, made);
        }
        Sheet.holds("One that has come to 0 is gone.");
        Lens used = chips(text, 17, 18);
        used.calls("chip(1, 2)", "chip(1, 1)", "chip(1, 2)", "year(2)");
        Lens made = chips(text, 17, 18);
        made.call("year(2)");
        sameAnswers(used, made);
        Sheet.holds("all of section 2 is as ahead of them;");
        Lens undone = chips(text, 17, 18, 60, 61, 62);
        undone.call("undo(3)");
        sameAnswers(undone, chips(text, 17, 18));
    }

    private static void sameAnswers(Lens used, Lens made) {
        for (String question : QUESTIONS) {
            used.is(question, made.call(question));
        }
        // he lays his own anew: nothing of a layer that is gone is his
        for (Lens x : new Lens[] {used, made}) {
            x.calls("wear(1)", "year(3)");
        }
        for (int k = 0; k < 10; k++) {
            for (int what = 0; what < 3; what++) {
                String layer = "layer(" + k + ", " + what + ")";
                used.is(layer, made.call(layer));
            }
        }
        for (String question : QUESTIONS) {
            used.is(question, made.call(question));
        }
    }
}
