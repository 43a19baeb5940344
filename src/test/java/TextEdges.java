/** Promises 1 to 4 and section 1 of the terms: each sentence that names an edge, in the document's order. */
public final class TextEdges {
    private static final int NONE = -1, UNKNOWN = -1000000001, OUTSIDE = -1000000002, NOT = -1000000003, FULL = -1000000004;
    private static final int LEAST = Integer.MIN_VALUE, MOST = Integer.MAX_VALUE;
    private static final String EIGHT = "c1;s0 1;s1 2;s2 3;s3 4;s0 5;s1 6;s2 7;s3 8;";

    private TextEdges() {
    }

    public static void main(String[] args) {
        noLineAtFirst();
        letters();
        fullText();
        clear();
        clearFirst();
        clearOnce();
        kinds();
        brights();
        eightScenes();
        sixWearers();
        looks();
        scenesToldAhead();
        figures();
        blanks();
        everyLetterAtEveryPlace();
        theEnd();
        theFirstLetter();
        theLeast();
        emptyText();
        becomesTheLine();
        lineBehindLine();
        shortBehindLong();
        faultLeavesAll();
        letterOfTheLatest();
        Sheet.end();
    }

    /** The text has that fault there, and no line comes of it. */
    private static void fault(String text, int number, int at) {
        Lens x = new Lens();
        x.feed(text);
        String shown = shown(text);
        Sheet.due("line() of '" + shown + "'", x.call("line()"), -10 - number);
        Sheet.due("fault() of '" + shown + "'", x.call("fault()"), at);
        Sheet.due("told(0) behind '" + shown + "'", x.call("told(0)"), 0);
    }

    /** The text has no fault and tells so many scenes. */
    private static Lens good(String text, int scenes) {
        Lens x = new Lens();
        x.feed(text);
        Sheet.due("line() of '" + shown(text) + "'", x.call("line()"), scenes);
        Sheet.due("fault() of '" + shown(text) + "'", x.call("fault()"), NONE);
        return x;
    }

    private static String shown(String text) {
        return text.replace("\n", "(10)").replace((char) 0 + "", "(0)");
    }

    private static String times(String part, int n) {
        return part.repeat(n);
    }

    private static void noLineAtFirst() {
        Sheet.holds("`HandedLens()`: No LINE.");
        Lens x = new Lens();
        int[] want = {0, 0, 0, 0, 0, NONE, 0, 0, 0, NONE, NONE, 0, 0, 0, 0, 0};
        for (int what = 0; what < want.length; what++) {
            x.asks("told(" + what + ")", want[what]);
        }
        x.asks("fault()", NONE).asks("scene(0, 0)", UNKNOWN).asks("wearer(0, 0)", UNKNOWN).asks("layer(0, 0)", UNKNOWN);
        x.asks("logged(0, 0)", NONE).asks("logged(0, 4)", OUTSIDE);
        x.asks("year(1)", NOT).asks("year(0)", OUTSIDE).asks("drift(1)", NOT).asks("drift(31)", OUTSIDE);
        x.asks("wear(0)", UNKNOWN).asks("wear(-1)", UNKNOWN).asks("takeOff()", NOT).asks("wipe(0)", UNKNOWN);
        x.asks("chip(0, 1)", UNKNOWN).asks("undo(1)", NOT).asks("takes(0)", UNKNOWN);
        x.asks("dark(0)", 0).asks("dark(60)", 0).asks("tooDark(1)", NONE).asks("willShow(0, 0)", UNKNOWN);
        x.asks("toWipe(0, 0)", 0).asks("toWipe(0, 1)", 0).asks("toWipe(1, 0)", UNKNOWN).asks("only(0, 0)", UNKNOWN);
        x.asks("order(0, 0)", NOT).asks("order(3, 0)", UNKNOWN).asks("ground(0)", UNKNOWN).asks("mist(1, 50)", 500000000);
        x.asks("meet(0, true)", UNKNOWN).asks("couldBe()", 0).asks("ask()", NONE).asks("write(0, 0)", UNKNOWN);
        x.asks("judge()", NONE).asks("goBack(0)", NOT).asks("goBack(1)", NOT);
        x.does("tear()", 0).does("seed(4)", 0).does("keep(0)", 1).does("seed(5)", 4).does("goBack(0)", 1).does("seed(0)", 4);
    }

    private static void letters() {
        Sheet.holds("A letter (0 .. 255) comes behind THE TEXT: how many it has. OUTSIDE, FULL (240).");
        Lens x = new Lens();
        x.asks("feed(-1)", OUTSIDE).asks("feed(256)", OUTSIDE).asks("feed(" + LEAST + ")", OUTSIDE).asks("feed(" + MOST + ")", OUTSIDE);
        x.does("feed(0)", 1).does("feed(255)", 2).is("told(3)", 2);
        x.asks("feed(-1)", OUTSIDE).asks("feed(256)", OUTSIDE).asks("feed(355)", OUTSIDE).is("told(3)", 2);
        Lens y = new Lens();
        y.feed("c1");
        // 59 is ';' and 315 is 59 and 256: a letter is not cut to its bounds
        y.asks("feed(315)", OUTSIDE).does("feed(59)", 3).does("line()", 0).is("told(0)", 1);
    }

    private static void fullText() {
        Sheet.holds("THE LINE is told in a text (240 letters at most), letter by letter: clauses:");
        Lens x = new Lens();
        x.feed("c7;s0 1;" + times(" ", 227) + "s1 2");
        x.is("told(3)", 239).does("feed(59)", 240).is("told(3)", 240);
        x.asks("feed(32)", FULL).asks("feed(0)", FULL).asks("feed(255)", FULL).is("told(3)", 240);
        Sheet.holds("REFUSALS, of several the first in this order: UNKNOWN");
        x.asks("feed(256)", OUTSIDE).asks("feed(-1)", OUTSIDE);
        Sheet.holds("THE LINE is told in a text (240 letters at most), letter by letter: clauses:");
        x.does("line()", 2).is("scene(1, 1)", 2).is("told(3)", 0).does("feed(99)", 1);
        fault("c7;" + times(" ", 236) + "x", 1, 239);
        fault("c7;" + times(" ", 236) + "c", 3, 239);
        fault("c7" + times(" ", 238), 1, 240);
        fault("c7;" + times(" ", 232) + "s0 12", 1, 240);
        good("c7" + times(" ", 237) + ";", 0);
    }

    private static void clear() {
        Sheet.holds("'c' C ';' (THE PAIR is CLEAR by C, 1 .. 99; first, once)");
        good("c1;", 0).is("told(0)", 1);
        good("c99;", 0).is("told(0)", 99);
        good("c10;", 0).is("told(0)", 10);
        fault("c0;", 2, 1);
        fault("c00;", 2, 1);
        fault("c000;", 2, 1);
        fault("c100;", 2, 1);
        fault("c999;", 2, 1);
        good("c001;", 0).is("told(0)", 1);
        good("c099;", 0).is("told(0)", 99);
    }

    private static void clearFirst() {
        Sheet.holds("1 it cannot stand there (a letter that is no word, another word first than 'c'; a seventh S: at its ',').");
        fault("s0 1;", 1, 0);
        fault("w0;", 1, 0);
        fault("  s0 1;c1;", 1, 2);
        fault(";", 1, 0);
        fault(",", 1, 0);
        fault("1", 1, 0);
        fault("1000", 1, 0);
        fault("C1;", 1, 0);
    }

    private static void clearOnce() {
        Sheet.holds("3 'c' again, a ninth 's', a seventh 'w' (at it).");
        fault("c1;c1;", 3, 3);
        fault("c1;c2;", 3, 3);
        fault("c1;  c", 3, 5);
        fault("c1;cx", 3, 3);
        fault("c1;s0 1;c1;", 3, 8);
        fault("c1;s0 1;w0;c1;", 3, 11);
        fault(EIGHT + "c", 3, EIGHT.length());
    }

    private static void kinds() {
        Sheet.holds("(8 SCENES at most: KIND K, 0 .. 3; BRIGHT by B, 1 .. 99)");
        for (int kind = 0; kind <= 3; kind++) {
            good("c1;s" + kind + " 1;", 1).is("scene(0, 0)", kind);
            good("c1;s00" + kind + " 1;", 1).is("scene(0, 0)", kind);
        }
        for (int kind : new int[] {4, 5, 9, 10, 13, 99, 100, 999}) {
            fault("c1;s" + kind + " 1;", 2, 4);
        }
        fault("c1;s-1 1;", 1, 4);
        Sheet.holds("'s' K B ';'");
        fault("c1;s;", 1, 4);
        fault("c1;s1;", 1, 5);
        fault("c1;s1 2 3;", 1, 8);
        fault("c1;s1 2", 1, 7);
    }

    private static void brights() {
        Sheet.holds("(8 SCENES at most: KIND K, 0 .. 3; BRIGHT by B, 1 .. 99)");
        good("c1;s0 1;", 1).is("scene(0, 1)", 1);
        good("c1;s0 99;", 1).is("scene(0, 1)", 99);
        good("c1;s0 099;", 1).is("scene(0, 1)", 99);
        fault("c1;s0 0;", 2, 6);
        fault("c1;s0 000;", 2, 6);
        fault("c1;s0 100;", 2, 6);
        fault("c1;s0 999;", 2, 6);
        fault("c1;s0 101;s0 1;", 2, 6);
    }

    private static void eightScenes() {
        Sheet.holds("(8 SCENES at most: KIND K, 0 .. 3; BRIGHT by B, 1 .. 99)");
        Lens x = good(EIGHT, 8);
        x.is("told(1)", 8).is("scene(7, 0)", 3).is("scene(7, 1)", 8).asks("scene(8, 0)", UNKNOWN);
        good("c1;", 0).is("told(1)", 0).asks("scene(0, 0)", UNKNOWN);
        Sheet.holds("What has a number has it from 0 on, as it comes.");
        for (int scene = 0; scene < 8; scene++) {
            x.is("scene(" + scene + ", 0)", scene % 4).is("scene(" + scene + ", 1)", scene + 1);
        }
        Sheet.holds("3 'c' again, a ninth 's', a seventh 'w' (at it).");
        fault(EIGHT + "s0 1;", 3, EIGHT.length());
        fault(EIGHT + " s", 3, EIGHT.length() + 1);
        fault(EIGHT + "s9 0000", 3, EIGHT.length());
        fault(EIGHT + "w7;s0 1;", 3, EIGHT.length() + 3);
        good(EIGHT + "w7;", 8).is("told(2)", 1);
    }

    private static void sixWearers() {
        Sheet.holds("(6 WEARERS at most: the SCENES, told ahead, at which one looks by his years in turn, 1 to 6 numbers)");
        String six = "c1;s0 1;s0 1;w0;w1;w0,0;w0;w1;w1,1,0;";
        Lens x = good(six, 2);
        x.is("told(2)", 6).is("wearer(5, 0)", 3).asks("wearer(6, 0)", UNKNOWN);
        good("c1;s0 1;", 1).is("told(2)", 0).asks("wearer(0, 0)", UNKNOWN);
        Sheet.holds("3 'c' again, a ninth 's', a seventh 'w' (at it).");
        fault(six + "w0;", 3, six.length());
        fault(six + "  w", 3, six.length() + 2);
        fault(six + "w9", 3, six.length());
        good(six + "s0 1;", 3);
        fault(six + "s0 1;w0;", 3, six.length() + 5);
    }

    private static void looks() {
        Sheet.holds("(6 WEARERS at most: the SCENES, told ahead, at which one looks by his years in turn, 1 to 6 numbers)");
        String begun = "c1;s0 1;s0 1;w";
        for (int n = 1; n <= 6; n++) {
            good(begun + "0" + times(",1", n - 1) + ";", 2).is("wearer(0, 0)", n);
        }
        Sheet.holds("'w' S {',' S} ';'");
        fault(begun + ";", 1, begun.length());
        fault(begun + ",0;", 1, begun.length());
        fault(begun + "0,;", 1, begun.length() + 2);
        Sheet.holds("a seventh S: at its ',')");
        fault(begun + "0,1,0,1,0,1,0;", 1, begun.length() + 11);
        fault(begun + "0,1,0,1,0,1,;", 1, begun.length() + 11);
        fault(begun + "0,1,0,1,0,1 , 9999", 1, begun.length() + 12);
        fault(begun + "0,1,0,1,0,9,0;", 2, begun.length() + 10);
        // the count begins again with each wearer
        good(begun + "0,1,0,1,0,1;w0,1,0,1,0,1;", 2).is("wearer(1, 0)", 6);
    }

    private static void scenesToldAhead() {
        Sheet.holds("a SCENE that there is not (at its first)");
        fault("c1;w0;", 2, 4);
        fault("c1;w0;s0 1;", 2, 4);
        fault("c1;s0 1;w1;", 2, 9);
        fault("c1;s0 1;w1;s0 1;", 2, 9);
        good("c1;s0 1;w0;s0 1;w1;", 2).is("wearer(1, 4)", 1);
        fault("c1;s0 1;w0,1;s0 1;", 2, 11);
        fault("c1;s0 1;s0 1;w0,1,0,2;", 2, 20);
        fault("c1;s0 1;w 999;", 2, 10);
        good(EIGHT + "w7,007,0;", 8).is("wearer(0, 0)", 3);
        fault(EIGHT + "w8;", 2, EIGHT.length() + 1);
    }

    private static void figures() {
        Sheet.holds("NUMBERS have one to three figures;");
        good("c5;s0 5;w0;", 1);
        good("c05;s00 05;w00;", 1);
        good("c005;s000 005;w000;", 1).is("told(0)", 5).is("scene(0, 1)", 5);
        Sheet.holds("2 a NUMBER of four figures or more, or out of its bounds;");
        fault("c0005;", 2, 1);
        fault("c5;s0001 5;", 2, 4);
        fault("c5;s0 0005;", 2, 6);
        fault("c5;s0 5;w0000;", 2, 9);
        fault("c5;s0 5;w0,0000;", 2, 11);
        // 2 to the 32, and 5: a number does not go round into its bounds
        fault("c4294967301;", 2, 1);
        fault("c5;s0 18446744073709551621;", 2, 6);
        fault("c5;s0 5;w" + times("0", 200) + ";", 2, 9);
        fault("c" + times("1", 239), 2, 1);
    }

    private static void blanks() {
        Sheet.holds("blanks (32) may stand anywhere but within NUMBERS; two NUMBERS side by side need one.");
        Lens x = good("  c  12  ;  s  1  34  ;  s 2 5 ;  w  0  ,  1  ,  0  ;  ", 2);
        x.is("told(0)", 12).is("scene(0, 0)", 1).is("scene(0, 1)", 34).is("wearer(0, 0)", 3);
        fault("c1 2;", 1, 3);
        fault("c1;s0 3 4;", 1, 8);
        fault("c1;s0 1;w0 0;", 1, 11);
        fault("c1;s0 1;w0, 0 0;", 1, 14);
        // without one they are one number: of two figures, of three, and then B is wanting
        fault("c1;s01;", 1, 6);
        fault("c1;s034;", 2, 4);
        fault("c1;s0,34;", 1, 5);
        for (int other : new int[] {9, 10, 13, 160}) {
            fault("c1" + (char) other + ";", 1, 2);
            fault((char) other + "c1;", 1, 0);
        }
    }

    /** Behind what was told, each of the 256 letters stands or is blamed there, and by its number. */
    private static void everyLetterAtEveryPlace() {
        Sheet.holds("a word is one letter;");
        String figures = "0123456789";
        place("", "c", "");
        place(" ", "c", "");
        place("c", figures, "");
        place("c ", figures, "");
        place("c12", ";", "");
        place("c12 ", ";", "");
        place("c12;", "sw", "c");
        place("c12;s", figures, "");
        place("c12;s003", "", "");
        place("c12;s3 ", figures, "");
        place("c12;s3 5", ";" + figures, "");
        place("c12;s3 5 ", ";", "");
        place("c12;s3 5;", "sw", "c");
        place("c12;s3 5;w", figures, "");
        place("c12;s3 5;w0", ",;" + figures, "");
        place("c12;s3 5;w0 ", ",;", "");
        place("c12;s3 5;w0,", figures, "");
        place("c12;s3 5;w0,0,0,0,0,0", ";" + figures, "");
        place("c12;s3 5;w0;", "sw", "c");
    }

    private static void place(String ahead, String stand, String again) {
        for (int letter = 0; letter < 256; letter++) {
            boolean figure = letter >= '0' && letter <= '9';
            boolean goesOn = figure && !ahead.isEmpty() && Character.isDigit(ahead.charAt(ahead.length() - 1));
            // What stands there may be faulty only further on, and figures that go on may leave their bounds.
            if (letter == ' ' || stand.indexOf(letter) >= 0 || goesOn) {
                continue;
            }
            fault(ahead + (char) letter + "x", again.indexOf(letter) >= 0 ? 3 : 1, ahead.length());
        }
        for (int i = 0; i < stand.length(); i++) {
            stands(ahead, stand.charAt(i));
        }
    }

    /** No fault is told at that letter: it is told of the sign behind it, or at the first figure of its number. */
    private static void stands(String ahead, char letter) {
        Lens x = new Lens();
        x.feed(ahead + letter + "?");
        x.call("line()");
        int at = x.call("fault()");
        int number = ahead.length();
        if (Character.isDigit(letter)) {
            for (; number > 0 && Character.isDigit(ahead.charAt(number - 1)); number--) { }
        }
        boolean figure = Character.isDigit(letter);
        Sheet.due("fault() of '" + ahead + letter + "?' is at that letter", !figure && at == ahead.length() ? 1 : 0, 0);
        Sheet.due("fault() of '" + ahead + letter + "?' is ahead of it", at < number ? 1 : 0, 0);
    }

    private static void theEnd() {
        Sheet.holds("FAULTS, at the first letter that has one (the end at the text's length), of these the least:");
        String whole = "c12;s3 45;s0 6;w0 , 1;";
        for (int length = 1; length < whole.length(); length++) {
            String cut = whole.substring(0, length);
            boolean stands = cut.trim().endsWith(";");
            if (stands) {
                good(cut, cut.contains("s0 6;") ? 2 : cut.contains("s3") ? 1 : 0);
            } else {
                fault(cut, 1, length);
                fault(cut + "   ", 1, length + 3);
            }
        }
        good(whole, 2);
        good(whole + "   ", 2);
    }

    private static void theFirstLetter() {
        Sheet.holds("FAULTS, at the first letter that has one (the end at the text's length), of these the least:");
        fault("c0x", 2, 1);
        fault("cx0", 1, 1);
        fault("c0;c1;", 2, 1);
        fault("c1;c0;", 3, 3);
        fault("c1;s4 0;", 2, 4);
        fault("c1;s3 0;", 2, 6);
        fault("c1;s4", 2, 4);
        fault("c1;x s4 1;", 1, 3);
        fault("c1;s0 1;w1,x", 2, 9);
        fault("c1;s0 1;w0,x1", 1, 11);
        fault("x", 1, 0);
        Sheet.holds("(at its first)");
        fault("c   100;", 2, 4);
        fault("c1;s0 1;w0 ,   12;", 2, 15);
    }

    private static void theLeast() {
        Sheet.holds("of these the least:");
        // one letter, two faults: it cannot stand there, and it is a number of four figures, a 'c' again, a ninth 's', a seventh 'w'
        fault("c1 1000;", 1, 3);
        fault("c1;1000", 1, 3);
        fault("c1;s0 1 999;", 1, 8);
        fault("c1c", 1, 2);
        fault("c1;s0 c", 1, 6);
        fault(EIGHT.substring(0, EIGHT.length() - 1) + "s", 1, EIGHT.length() - 1);
        String six = "c1;s0 1;w0;w0;w0;w0;w0;w0";
        fault(six + "w", 1, six.length());
        fault("0000", 1, 0);
    }

    private static void emptyText() {
        Sheet.holds("An empty text: no LINE.");
        Lens x = new Lens();
        x.does("line()", 0).is("fault()", NONE).is("told(0)", 0);
        x.asks("year(1)", NOT).asks("drift(1)", NOT);
        x.feed("c5;s2 9;w0;");
        x.calls("line()", "wear(0)", "year(3)", "meet(0, true)", "write(0, 0)", "seed(11)", "keep(0)", "chip(0, 5)");
        x.does("line()", 0);
        int[] want = {0, 0, 0, 0, 0, NONE, 0, 0, 0, NONE, NONE, 0, 0, 0, 0, 0};
        for (int what = 0; what < want.length; what++) {
            x.is("told(" + what + ")", want[what]);
        }
        x.asks("year(1)", NOT).asks("drift(1)", NOT).asks("scene(0, 0)", UNKNOWN).asks("wearer(0, 0)", UNKNOWN);
        x.asks("goBack(0)", NOT).asks("undo(1)", NOT).does("seed(0)", 11);
        // a text that tells the pair alone is a line
        good("c1;", 0).does("year(1)", 1).does("drift(1)", 2);
        // blanks may stand anywhere, so a text of blanks alone tells as much as an empty one
        good(" ", 0).is("told(0)", 0).asks("year(1)", NOT);
        good(times(" ", 240), 0).is("told(0)", 0).is("told(3)", 0).asks("year(1)", NOT);
    }

    private static void lineBehindLine() {
        Sheet.holds("THE TEXT (it is empty then, with a FAULT, too) becomes THE LINE");
        // nothing of an earlier text is left, of one with a fault neither
        Lens x = Lens.of("c5;s2 9;s1 8;w0,1,0;w1,1;w0;w0;w0;w0,1,1,1,1,0;");
        x.calls("wear(5)", "year(3)");
        x.is("wearer(5, 1)", 3);
        String[] texts = {"c6;s3 7;w0;", "c7;s0 6;w0,0;w0,0,0;", "c8;s1 5;s1 4;w1,1,1,1,1,1;w9;", "c9;s2 3;w0;w0,0,0;w0;w0;w0;w0,0;"};
        int[][] looks = {{1}, {2, 3}, {2, 3}, {1, 3, 1, 1, 1, 2}};
        for (int i = 0; i < texts.length; i++) {
            x.feed(texts[i]);
            x.does("line()", i == 2 ? -12 : 1).is("told(2)", looks[i].length).is("told(0)", i == 2 ? 7 : 6 + i).is("told(1)", 1);
            for (int w = 0; w < looks[i].length; w++) {
                x.is("wearer(" + w + ", 0)", looks[i][w]).is("wearer(" + w + ", 1)", 0).is("wearer(" + w + ", 4)", 0);
            }
        }
    }

    private static void becomesTheLine() {
        Sheet.holds("THE TEXT (it is empty then, with a FAULT, too) becomes THE LINE");
        Lens x = Lens.of("c5;s2 9;s1 8;w0,1;w1;");
        x.is("told(3)", 0).calls("wear(0)", "year(2)", "seed(21)", "keep(0)", "keep(1)", "chip(1, 44)", "meet(0, false)", "write(1, 0)");
        x.feed("c6;s3 7;s0 4;s1 3;w2;w0,1,2;w1;");
        x.does("line()", 3).is("told(3)", 0);
        Sheet.holds("(YEAR 0, no LAYERS, worn by nobody, THE LOG is empty; nothing MET, no BOOK; IMAGES, what could be undone are gone; "
                + "THE SEED stays): how many SCENES;");
        int[] want = {6, 3, 3, 0, 0, NONE, 0, 0, 0, NONE, NONE, 0, 0, 0, 0, 0};
        for (int what = 0; what < want.length; what++) {
            x.is("told(" + what + ")", want[what]);
        }
        x.is("wearer(0, 1)", 0).is("wearer(0, 0)", 1).is("wearer(1, 0)", 3).is("wearer(0, 4)", 2).is("scene(0, 0)", 3).is("scene(2, 1)", 3);
        x.asks("goBack(0)", NOT).asks("goBack(1)", NOT).asks("undo(1)", NOT).asks("logged(0, 0)", NONE).asks("layer(0, 0)", UNKNOWN);
        x.does("seed(0)", 21).is("couldBe()", 7).is("judge()", NONE);
        x.does("meet(2, true)", 1).does("write(2, 2)", 1).does("year(1)", 1);
        x.feed("c6;s3 7;");
        x.does("line()", 1).is("wearer(0, 0)", UNKNOWN).is("told(2)", 0);
    }

    /** A text that ends anywhere is read as on a new object, whatever letters an earlier, longer one had behind its end. */
    private static void shortBehindLong() {
        Sheet.holds("(it is empty then, with a FAULT, too)");
        String whole = "c12;s3 45;s0 6;w0 , 1;";
        for (String letter : new String[] {"9", " ", ";", ",", "0", "s", "w", "x"}) {
            for (int length = 0; length <= whole.length(); length++) {
                Lens used = new Lens();
                used.feed(times(letter, whole.length() + 4));
                used.call("line()");
                Lens made = new Lens();
                used.feed(whole.substring(0, length));
                made.feed(whole.substring(0, length));
                used.does("line()", made.call("line()")).is("fault()", made.call("fault()")).isAs(made, "'" + whole.substring(0, length) + "'");
            }
        }
    }

    private static void faultLeavesAll() {
        Sheet.holds("-10 less the number of its FAULT (all is as it was).");
        String[] texts = {"c1;s0 1;w0", "c1;s9 1;", "c1;s0 1;c1;", "  x"};
        int[] answers = {-11, -12, -13, -11};
        for (int i = 0; i < texts.length; i++) {
            leavesAll(texts[i], answers[i]);
        }
        Sheet.holds("(it is empty then, with a FAULT, too)");
        Lens x = new Lens();
        x.feed("c1;x");
        x.does("line()", -11).is("told(3)", 0).does("feed(99)", 1).does("feed(50)", 2).does("feed(59)", 3).does("line()", 0).is("told(0)", 2);
    }

    private static void leavesAll(String text, int answer) {
        String[] follow = {"told(0)", "undo(1)", "undo(3)", "goBack(0)", "goBack(1)", "drift(9)", "seed(0)", "year(5)"};
        for (String next : follow) {
            Lens x = Lens.of("c5;s2 9;s1 8;w0,1;w1;");
            x.calls("wear(0)", "year(3)", "keep(1)", "seed(99)", "chip(1, 44)", "wear(1)", "year(1)", "meet(0, false)", "write(1, 0)");
            Lens y = x.again();
            x.feed(text);
            x.does("line()", answer).isAs(y, "behind a text with a fault");
            x.does(next, y.call(next)).isAs(y, next + " behind a text with a fault");
        }
    }

    private static void letterOfTheLatest() {
        Sheet.holds("The letter of the FAULT of the latest line(); NONE.");
        Lens x = new Lens();
        x.asks("fault()", NONE);
        x.feed("c1;s0 1;x");
        x.asks("fault()", NONE).does("line()", -11).asks("fault()", 8);
        x.feed("c0");
        x.asks("fault()", 8).does("line()", -12).asks("fault()", 1);
        x.does("line()", 0).asks("fault()", NONE);
        x.feed("c");
        x.does("line()", -11).asks("fault()", 1);
        x.feed("c4;");
        x.does("line()", 0).asks("fault()", NONE).is("told(0)", 4);
        x.feed("?");
        x.does("line()", -11).asks("fault()", 0).is("told(0)", 4);
    }
}
