/** What the document says ahead of its promises: the terms, sections 1, 2 and 3, the interface's lines. */
final class EdgesOfTerms {
    private static final String[] LETTERS = {"l", "t", "k", "h", "w", "f"};
    private static final int[] TOUCHES = {11, 23, 38, 89, 186, 308, 200, 464, 416};

    private EdgesOfTerms() {
    }

    static void run() {
        calls();
        order();
        none();
        refusedChangesNothing();
        findings();
        lowestTerms();
        sets();
        rowsAndTexts();
        withoutLamps();
        blanks();
        nineLamps();
        faults();
        faultAtTheEnd();
        places();
        kinds();
        steps();
        touches();
        showsOrNot();
        broken();
        atFirst();
        deeds();
        lots();
        asides();
        pictures();
        chances();
    }

    private static void calls() {
        Edge.says(0, "An object is used for at most 512 calls after it has been made; "
            + "what later calls answer is free.");
        TouchedLamps x = new TouchedLamps();
        Due.write(x, 0, Due.MIXED);
        Edge.answers(x, 9, "wall", 0);
        for (int call = 2 + Due.MIXED.length(); call < 511; call++) {
            Edge.answers(x, 0, "count", 2);
        }
        Edge.answers(x, 16 + 64 + 128, "press", 4);
    }

    private static void order() {
        Edge.says(0, "Refused is, the first of these that fits, in this order: BAD -1 (a number that is none, or not "
            + "as told), FULL -2, STATE -4 (not now), SPENT -6 (more than told), FINDING -3 (finding() tells which), "
            + "unless a call says so otherwise.");
        Edge.bad(Scene.BARE, "keep", 3);
        Edge.bad(Scene.BARE, "row", 6, -1);
        Edge.bad(Scene.BARE, "lay", 6, 99, 0);
        Edge.bad(Scene.BARE, "at", -1, -1);
        Edge.bad(Scene.BARE, "copy", 6, 99, 2, 99, -1);
        Edge.bad(Scene.BARE, "text", 4, -1);
        Edge.bad(Scene.BARE, "put", 4, 99, 0);
        Edge.bad(Scene.LIT, "mark", 0, 0);
        Edge.bad(Scene.LIT, "mark", 0, 6);
        Edge.bad(Scene.LIT, "kinds", 9, 2);
        Edge.bad(Scene.LIT, "next", 9, 5);
        Edge.state(Scene.BARE, "shows", 2);
        Edge.state(Scene.BARE, "sure", 0);
        Edge.due("BAD", TouchedLamps.BAD, -1);
        Edge.due("FULL", TouchedLamps.FULL, -2);
        Edge.due("STATE", TouchedLamps.STATE, -4);
        Edge.due("SPENT", TouchedLamps.SPENT, -6);
        Edge.due("FINDING", TouchedLamps.FINDING, -3);
    }

    private static void none() {
        Edge.says(0, "NONE -9.");
        Edge.due("NONE", TouchedLamps.NONE, -9);
        Edge.answers(Scene.LIT.make(), -9, "fault", 0);
    }

    /** One of each refusal of each call; the tests of the promises have the rest, held to twins all of them. */
    private static void refusedChangesNothing() {
        Edge.says(0, "What is refused changes nothing but finding(), findings().");
        for (Scene scene : new Scene[] {Scene.BARE, Scene.LIT, Scene.FULL}) {
            Edge.bad(scene, "row", 0, 41);
            Edge.finds(scene, Due.SIZE, "row", 0, -1);
            Edge.finds(scene, Due.BEYOND, "lay", 0, 3, 7);
            Edge.finds(scene, Due.NOTHING, "tear", 2);
            Edge.finds(scene, Due.BEYOND, "copy", 0, 0, 4, 2, 3);
            Edge.finds(scene, Due.NOUGHT, "mean", 1);
            Edge.bad(scene, "text", 0, 61);
            Edge.finds(scene, Due.SIZE, "text", 0, -1);
            Edge.finds(scene, Due.BEYOND, "put", 0, 19, 7);
            Edge.state(scene, "wall", 1);
            Edge.bad(scene, "set", 0, 2);
            Edge.bad(scene, "crack", 9);
            Edge.bad(scene, "undo", 41);
            Edge.bad(scene, "keep", 3);
            Edge.finds(scene, Due.NOTHING, "on", 1);
            Edge.bad(scene, "touched", 0, 2, 0, 0);
        }
        Edge.state(Scene.LIT, "set", 0, 1);
        Edge.full(Scene.FULL, "press", 4);
        Edge.full(Scene.FULL, "set", 0, 0);
        Edge.full(Scene.FULL, "crack", 0);
        Edge.full(Scene.FULL, "lots", 1, 1);
        Edge.finds(Scene.LIT, Due.SIZE, "shows", 3);
        Edge.finds(Scene.LIT, Due.UNLIKE, "shows", 0);
        Edge.finds(Scene.LIT, Due.NOUGHT, "sure", 256);
        Edge.finds(Scene.LIT, Due.UNLIKE, "mark", 0, 1);
        Edge.finds(Scene.LIT, Due.SIZE, "kinds", 0, 5);
        Edge.finds(Scene.LIT, Due.SIZE, "next", 0, 5);
        Edge.refused(Scene.LIT, Due.NONE, "fewest", 256, 0);
    }

    private static void findings() {
        Edge.says(0, "FINDINGS: 1 NOTHING (a ROW, a TEXT, a kept WALL that is missing)");
        Edge.finds(Scene.LIT, 1, "at", 2, 0);
        Edge.finds(Scene.LIT, 1, "put", 3, 0, 0);
        Edge.finds(Scene.LIT, 1, "on", 1);
        Edge.says(0, ", 2 BEYOND (a place of a ROW, a TEXT that there is not)");
        Edge.finds(Scene.LIT, 2, "at", 0, 3);
        Edge.finds(Scene.LIT, 2, "put", 2, 0, 0);
        Edge.says(0, ", 3 UNLIKE (a LAMP of another KIND; a number that is none)");
        Edge.finds(Scene.LIT, 3, "mark", 0, 5);
        Edge.finds(Scene.LIT.withRow(0, 9), 3, "shows", 0);
        Edge.says(0, ", 4 NOUGHT (shared among none; nothing fits)");
        Edge.finds(Scene.LIT, 4, "mean", 1);
        Edge.finds(Scene.LIT, 4, "sure", 256);
        Edge.says(0, ", 5 SIZE (fewer than none; too many, not as many as due).");
        Edge.finds(Scene.LIT, 5, "row", 0, -1);
        Edge.finds(Scene.LIT, 5, "shows", 3);
        Edge.finds(Scene.LIT, 5, "kinds", 0, 5);
    }

    private static void lowestTerms() {
        Edge.says(0, "Chances, means, numbers of sets are told by upper(), lower(), in lowest terms, "
            + "the lower number above 0 (0 by 1).");
        Edge.parts(Scene.LIT.make(), 0, 1, "odds", 0, 511, 3);
        Edge.parts(Scene.LIT.make(), 0, 1, "ways", 256);
        Edge.parts(Scene.LIT.make(), 0, 1, "sums", 18);
        Edge.parts(Scene.of("l0l0l0l0l0l0l0l0l0").make(), 0, 1, "mid", 4, 12);
        Edge.parts(Scene.of("l0l0l0l0l0l0l0l0l0").make(), 1, 1, "odds", 4, 0, 12);
        for (int p = 0; p <= 12; p++) {
            TouchedLamps x = Scene.LIT.make();
            for (int i = 0; i < 9; i++) {
                x.mid(i, p);
                lowest(x, "mid", i, p);
                for (int picture = 217 & ~TOUCHES[i], all = 0; all < 4; all++, picture ^= TOUCHES[i] & (5 << all)) {
                    x.odds(i, picture, p);
                    lowest(x, "odds", i, picture, p);
                }
            }
        }
    }

    private static void lowest(TouchedLamps x, String name, int... args) {
        long shared = java.math.BigInteger.valueOf(x.upper()).gcd(java.math.BigInteger.valueOf(x.lower())).longValue();
        Edge.due(Edge.told(name, args) + ", shared by upper() and lower()", shared, 1);
        Edge.due(Edge.told(name, args) + ", lower() is above 0", x.lower() > 0 ? 1 : 0, 1);
        Edge.due(Edge.told(name, args) + ", upper() is not below 0", x.upper() >= 0 ? 1 : 0, 1);
    }

    private static void sets() {
        Edge.says(0, "Sets (of LAMPS, of BUTTONS: bits 0 .. 8; of KINDS) are told by bits.");
        Edge.answers(Scene.of("l1l0l0l0l0l0l0l0l0").make(), 1, "count", 3);
        Edge.answers(Scene.of("l0l0l0l0l0l0l0l0l1").make(), 256, "count", 3);
        Edge.answers(Scene.of("l1l1l1l1l1l1l1l1l1").make(), 511, "count", 3);
        Edge.answers(Scene.of("k1k1k1k1k1k1k1k1k1").make(), 511, "which", 511);
        Edge.answers(Scene.of("k1k1k1k1k1k1k1k1k1").make(), 0, "which", 510);
        Edge.asks(Scene.of("l0l0l0l0l0l0l0l0l0").make(), 0, 511, "sure", 0);
        Edge.answers(Scene.of("l0l0l0l0l0l0l0l0l0").withRow(0).make(), 63, "kinds", 0, 0);
    }

    private static void rowsAndTexts() {
        Edge.says(0, "1 ROWS 0 .. 5 are rows of 0 to 40 ints,");
        for (int r = 0; r <= 5; r++) {
            Edge.answers(Scene.FRESH.make(), 0, "row", r, 0);
            Edge.answers(Scene.FRESH.make(), 40, "row", r, 40);
            Edge.bad(Scene.FRESH, "row", r, 41);
        }
        Edge.bad(Scene.FRESH, "row", -1, 0);
        Edge.bad(Scene.FRESH, "row", 6, 0);
        Edge.says(0, "TEXTS 0 .. 3 rows of 0 to 60 bytes,");
        for (int t = 0; t <= 3; t++) {
            Edge.answers(Scene.FRESH.make(), 0, "text", t, 0);
            Edge.answers(Scene.FRESH.make(), 60, "text", t, 60);
            Edge.bad(Scene.FRESH, "text", t, 61);
        }
        Edge.bad(Scene.FRESH, "text", -1, 0);
        Edge.bad(Scene.FRESH, "text", 4, 0);
        Edge.says(0, "or missing (at first).");
        for (int r = 0; r <= 5; r++) {
            Edge.finds(Scene.FRESH, Due.NOTHING, "tear", r);
        }
        for (int t = 0; t <= 3; t++) {
            Edge.finds(Scene.FRESH, Due.NOTHING, "fault", t);
        }
    }

    private static void withoutLamps() {
        Edge.says(0, "A WALL (without LAMPS at first) is a TEXT:");
        for (Scene scene : new Scene[] {Scene.FRESH, Scene.BARE}) {
            Edge.answers(scene.make(), 0, "count", 0);
            Edge.state(scene, "press", 0);
            Edge.bad(scene, "lamp", 0, 0);
        }
        Edge.answers(Scene.LIT.make(), 9, "count", 0);
    }

    private static void blanks() {
        Edge.says(0, "blanks (32) ahead, between, behind as many as wanted, none within items:");
        String many = " ".repeat(42);
        faultIs(Due.PLAIN, Due.NONE);
        faultIs(many + Due.PLAIN, Due.NONE);
        faultIs(Due.PLAIN + many, Due.NONE);
        faultIs("l0" + many + Due.PLAIN.substring(2), Due.NONE);
        faultIs(Due.PLAIN.replace("l", "   l") + "      ", Due.NONE);
        for (int i = 0; i < 9; i++) {
            String ahead = "l0 ".repeat(i);
            faultIs(ahead + "l 0" + " l0".repeat(8 - i), 3 * i + 1);
        }
        for (int sign = -128; sign < 128; sign++) {
            if (sign != 32) {
                faultIs(Due.PLAIN + (char) (sign & 255), 18);
            }
        }
    }

    private static void faultIs(String text, int want) {
        TouchedLamps x = new TouchedLamps();
        Due.write(x, 0, text);
        Edge.due("fault() of '" + text + "'", x.fault(0), want);
        Edge.due("wall() of '" + text + "'", x.wall(0), want == Due.NONE ? 9 : Due.STATE);
    }

    private static void nineLamps() {
        Edge.says(0, "9 LAMPS (0, 1, .. 8 as they come), each a letter, its STEP at first (0 .. 2; one figure).");
        TouchedLamps x = Scene.of("t0w1t2 k1l0h1 f1l1w2").make();
        int[] kinds = {1, 4, 1, 2, 0, 3, 5, 0, 4};
        int[] steps = {0, 1, 2, 1, 0, 1, 1, 1, 2};
        for (int i = 0; i < 9; i++) {
            Edge.asks(x, 1, kinds[i], "lamp", i, 0);
            Edge.asks(x, 1, steps[i], "lamp", i, 1);
        }
        faultIs("t0t0t0t0t0t0t0t00t0", 16);
        faultIs("t0t0t0t0t0t0t0t0t3", 17);
        faultIs("t0t0t0t0t0t0t0t0t2", Due.NONE);
        faultIs("t", 1);
    }

    private static void faults() {
        Edge.says(0, "A FAULT is the first place at which it can't go on so (");
        faultIs("x", 0);
        faultIs("l0x0l9l", 2);
        faultIs("l9x0l0", 1);
        Edge.says(0, "(a letter, a figure that is none such,");
        for (int sign = -128; sign < 128; sign++) {
            char it = (char) (sign & 255);
            boolean letter = "ltkhwf".indexOf(it) >= 0;
            faultIs(it + "0", letter ? 2 : it == ' ' ? 1 : 0);
            faultIs("t" + it, it == '0' || it == '1' || it == '2' ? 2 : 1);
            faultIs("l" + it, it == '0' || it == '1' ? 2 : 1);
        }
        Edge.says(0, "a tenth LAMP,");
        faultIs(Due.PLAIN + "l0", 18);
        faultIs(Due.PLAIN + "   t2", 21);
        faultIs(Due.PLAIN + "l", 18);
        faultIs(Due.PLAIN + " l2", 19);
        faultIs(Due.PLAIN, Due.NONE);
        Edge.says(0, "a STEP of 2 of one that has none: its place;");
        for (String letter : LETTERS) {
            boolean three = letter.equals("t") || letter.equals("w");
            faultIs(" " + letter + "2", three ? 3 : 2);
            faultIs("l0l0l0l0l0l0l0l0" + letter + "2", three ? Due.NONE : 17);
        }
    }

    private static void faultAtTheEnd() {
        Edge.says(0, "the TEXT's size, if its end comes too early,");
        faultIs("l", 1);
        faultIs("l0l0l0l0l0l0l0l0l", 17);
        faultIs("l0l0 t", 6);
        Edge.says(0, "or there are fewer than 9,");
        faultIs("l0", 2);
        faultIs("l0l0l0l0l0l0l0l0", 16);
        faultIs("l0l0l0l0l0l0l0l0   ", 19);
        faultIs("l0l0l0l0l0l0l0l0" + " ".repeat(44), 60);
        Edge.says(0, "or blanks alone).");
        faultIs("", 0);
        faultIs(" ", 1);
        faultIs(" ".repeat(60), 60);
    }

    private static void places() {
        Edge.says(0, "LAMP i is in row i by 3 (cut), column i modulo 3; "
            + "next to one another are two in one row or column, one apart. "
            + "BUTTON i touches LAMP i, and those next to it.");
        TouchedLamps x = Scene.of(Due.PLAIN).make();
        for (int i = 0; i < 9; i++) {
            int touched = 0;
            for (int j = 0; j < 9; j++) {
                boolean sameRow = i / 3 == j / 3;
                boolean sameColumn = i % 3 == j % 3;
                boolean next = sameRow && Math.abs(i % 3 - j % 3) == 1 || sameColumn && Math.abs(i / 3 - j / 3) == 1;
                touched |= i == j || next ? 1 << j : 0;
            }
            Edge.due("LAMPS of BUTTON " + i + " by hand", touched, TOUCHES[i]);
            Edge.asks(x, 1, touched, "lamp", i, 4);
            Edge.answers(x, touched, "press", i);
            Edge.answers(x, 1, "undo", 0);
        }
        Edge.due("2 and 3 are not next to one another", TOUCHES[2] >> 3 & 1, 0);
        Edge.due("5 and 6 are not next to one another", TOUCHES[5] >> 6 & 1, 0);
    }

    private static void kinds() {
        Edge.says(0, "KINDS of LAMPS and letters: 0 LAMP (l, 108), 1 THREE (t, 116; a LAMP), 2 STUCK (k, 107; a LAMP), "
            + "3 SHY (h, 104; a LAMP), 4 SLOW (w, 119; a THREE), 5 FALSE (f, 102; a SHY one).");
        int[] letters = {108, 116, 107, 104, 119, 102};
        int[] are = {0, 1 << 1, 1 << 2, 1 << 3, 1 << 1 | 1 << 4, 1 << 3 | 1 << 5};
        for (int kind = 0; kind < 6; kind++) {
            TouchedLamps x = Scene.of((char) letters[kind] + "0l0l0l0l0l0l0l0l0").make();
            Edge.asks(x, 1, kind, "lamp", 0, 0);
            for (int what = 1; what < 6; what++) {
                boolean is = (are[kind] >> what & 1) == 1;
                Edge.due("KIND " + kind + " is a " + what, x.mark(0, what) >= 0 ? 1 : 0, is ? 1 : 0);
            }
        }
    }

    private static void steps() {
        Edge.says(0, "STEPS are 0 and 1, of a THREE (SLOW, too) 0, 1 and 2.");
        for (String letter : LETTERS) {
            int last = letter.equals("t") || letter.equals("w") ? 2 : 1;
            Scene scene = Scene.of(letter + "0l0l0l0l0l0l0l0l0");
            TouchedLamps x = scene.make();
            for (int step = 1; step <= last; step++) {
                Edge.answers(x, step - 1, "set", 0, step);
            }
            Edge.answers(x, last, "set", 0, 0);
            Edge.bad(scene, "set", 0, last + 1);
            Edge.bad(scene, "set", 0, -1);
        }
    }

    private static void touches() {
        Edge.says(0, "Touched by a PRESS (they are numbered from 0 on) a LAMP comes to its other STEP;");
        stepsBehind("l0", 0, 1, 0, 1, 0);
        stepsBehind("l0", 1, 1, 0, 1, 0);
        Edge.says(0, "a THREE to the next one, from 2 to 0;");
        stepsBehind("t0", 0, 1, 2, 0, 1);
        stepsBehind("t1", 1, 2, 0, 1, 2);
        Edge.says(0, "a STUCK one to 1;");
        stepsBehind("k0", 0, 1, 1, 1, 1);
        stepsBehind("k1", 1, 1, 1, 1, 1);
        Edge.says(0, "a SHY one as a LAMP, but by its own BUTTON it stays;");
        stepsBehind("h0", 0, 0, 0, 0, 0);
        stepsBehind("h1", 0, 1, 1, 1, 1);
        stepsBehind("h0", 1, 1, 0, 1, 0);
        stepsBehind("h0", 3, 1, 0, 1, 0);
        Edge.says(0, "a SLOW one as a THREE, in PRESSES of even numbers alone;");
        stepsBehind("w0", 0, 1, 1, 2, 2, 0, 0, 1);
        stepsBehind("w2", 1, 0, 0, 1, 1, 2, 2, 0);
        Edge.says(0, "a FALSE one as a SHY one.");
        stepsBehind("f0", 0, 0, 0, 0, 0);
        stepsBehind("f1", 0, 1, 1, 1, 1);
        stepsBehind("f0", 1, 1, 0, 1, 0);
        stepsBehind("f1", 3, 0, 1, 0, 1);
        for (String item : new String[] {"l1", "t2", "k0", "h1", "w1", "f1"}) {
            int step = item.charAt(1) - '0';
            stepsBehind(item, 2, step, step);
            stepsBehind(item, 4, step, step);
        }
    }

    /** LAMP 0 is that item; the STEPS to which it comes by PRESSES of one BUTTON, from PRESS 0 on. */
    private static void stepsBehind(String item, int button, int... steps) {
        TouchedLamps x = Scene.of(item + "l0l0l0l0l0l0l0l0").make();
        for (int number = 0; number < steps.length; number++) {
            x.press(button);
            x.lamp(0, 1);
            Edge.due(item + " behind PRESS " + number + " of BUTTON " + button, x.asked(), steps[number]);
        }
    }

    private static void showsOrNot() {
        Edge.says(0, "It SHOWS, if its STEP is above 0; a FALSE one, if it is 0.");
        String[] items = {"l0", "l1", "t0", "t1", "t2", "k0", "k1", "h0", "h1", "w0", "w1", "w2", "f0", "f1"};
        int[] show = {0, 1, 0, 1, 1, 0, 1, 0, 1, 0, 1, 1, 1, 0};
        for (int k = 0; k < items.length; k++) {
            TouchedLamps x = Scene.of("l0l0l0l0l0l0l0l0" + items[k]).make();
            x.lamp(8, 2);
            Edge.due(items[k] + " SHOWS", x.asked(), show[k]);
            Edge.due(items[k] + " among those that SHOW", x.count(3), show[k] * 256);
        }
    }

    private static void broken() {
        Edge.says(0, "One that is BROKEN is not touched, and does not SHOW.");
        for (String item : new String[] {"l0", "l1", "t2", "k0", "k1", "h1", "w0", "w2", "f0", "f1"}) {
            TouchedLamps x = Scene.of(item + "l0l0l0l0l0l0l0l0").make();
            Edge.answers(x, 1, "crack", 0);
            for (int button : new int[] {0, 1, 3}) {
                Edge.due(item + " BROKEN SHOWS behind BUTTON " + button, x.press(button) & 1, 0);
                Edge.asks(x, 1, item.charAt(1) - '0', "lamp", 0, 1);
                Edge.asks(x, 1, 0, "lamp", 0, 2);
            }
        }
    }

    private static void atFirst() {
        Edge.says(0, "2 PRESS 0 is next at first, nothing is BROKEN.");
        for (Scene scene : new Scene[] {Scene.FRESH, Scene.BARE, Scene.of(Due.MIXED)}) {
            Edge.answers(scene.make(), 0, "count", 1);
            Edge.answers(scene.make(), 0, "count", 4);
        }
    }

    private static void deeds() {
        Edge.says(0, "What is done: a BUTTON is PRESSED, a LAMP is set to another STEP, BROKEN, or mended.");
        TouchedLamps x = Scene.of(Due.PLAIN).make();
        int deed = 0;
        for (String name : new String[] {"press", "crack", "crack"}) {
            Edge.call(x, name, 8);
            Edge.answers(x, ++deed, "count", 2);
        }
        Edge.answers(x, 1, "set", 8, 0);
        Edge.answers(x, 4, "count", 2);
        Edge.answers(x, 1, "count", 1);
        Edge.says(0, "These are DEEDS 0, 1, .. (40 at most).");
        for (Scene some : new Scene[] {Scene.LIT.withDeeds(35), Scene.of(Due.MIXED).withDeeds(39)}) {
            Edge.answers(some.make(), 39, "count", 2);
            TouchedLamps y = some.make();
            Edge.answers(y, 0, "crack", 0);
            Edge.answers(y, 40, "count", 2);
            Edge.answers(y, Due.FULL, "crack", 0);
            Edge.answers(y, 40, "count", 2);
        }
        Edge.full(Scene.FULL, "crack", 0);
    }

    /** By hand: 48271, 182605794, 1291394886 follow from 1; 2147435376 from 2147483646. */
    private static void lots() {
        Edge.says(0, "3 LOTS: a number comes from the one ahead by 48271 times it modulo 2147483647, "
            + "the first from a seed (1 .. 2147483646).");
        TouchedLamps x = Scene.of(Due.PLAIN).make();
        TouchedLamps by = Scene.of(Due.PLAIN).make();
        x.lots(3, 1);
        by.press(4);
        by.set(6, 1);
        by.press(6);
        Edge.sameElse("lots(3, 1): BUTTON 4, LAMP 6 set to its next STEP, BUTTON 6", x, by);
        TouchedLamps y = Scene.of(Due.PLAIN).make();
        TouchedLamps byCrack = Scene.of(Due.PLAIN).make();
        y.lots(1, 2147483646);
        byCrack.crack(6);
        Edge.sameElse("lots(1, 2147483646): LAMP 6 is BROKEN", y, byCrack);
        Edge.bad(Scene.LIT, "lots", 1, 0);
        Edge.bad(Scene.LIT, "lots", 1, 2147483647);
        Edge.bad(Scene.LIT, "lots", 1, -1);
        Edge.bad(Scene.LIT, "lots", 1, Edge.LEAST);
    }

    private static void asides() {
        Edge.says(0, "3 what shows (aside).");
        for (Scene scene : new Scene[] {Scene.LIT, Scene.FULL}) {
            Edge.aside(scene, 0, "touched", 0, 1, 1, 0);
            Edge.aside(scene, 217, "shows", 1);
            Edge.aside(scene.withRow(1, 4), 1 + 2 + 32 + 64 + 128, "shows", 1);
            Edge.aside(scene, mostOf(scene), "most");
        }
    }

    private static int mostOf(Scene scene) {
        int best = 0;
        int many = -1;
        for (int i = 0; i < 9; i++) {
            int shown = Integer.bitCount(scene.withRow(1, i).make().shows(1));
            best = shown > many ? i : best;
            many = Math.max(many, shown);
        }
        return best;
    }

    private static void pictures() {
        Edge.says(0, "4 a picture (aside; a set of LAMPS 0 .. 511 that SHOW, all others not).");
        for (Scene scene : new Scene[] {Scene.LIT, Scene.FULL}) {
            Edge.aside(scene, 1, "ways", 217);
            Edge.aside(scene, 1, "ways", 256);
            Edge.answers(scene.make(), 0, "fewest", 217, 2);
            Edge.due("sure() is granted", scene.make().sure(217) >= 0 ? 1 : 0, 1);
            Edge.aside(scene, scene.make().sure(217), "sure", 217);
            TouchedLamps x = scene.make();
            TouchedLamps twin = scene.make();
            x.fewest(217, 2);
            twin.row(2, 0);
            Edge.sameElse("fewest() changes its ROW alone", x, twin);
        }
        for (String call : new String[] {"ways", "sure", "which"}) {
            Edge.bad(Scene.LIT, call, -1);
            Edge.bad(Scene.LIT, call, 512);
        }
        TouchedLamps plain = Scene.of("l0l0l0l0l0l0l0l0l0").make();
        Edge.parts(plain, 1, 1, "ways", 0);
        Edge.parts(plain, 1, 1, "ways", 511);
        Edge.answers(plain, 1, "which", 11);
        Edge.answers(plain, 0, "which", 3);
        Edge.answers(plain, 0, "which", 11 + 4);
    }

    private static void chances() {
        Edge.says(0, "8 chances, lots (each LAMP that a BUTTON, PRESSED now, touches is not touched "
            + "by p (0 .. 12) of 12, each by itself).");
        TouchedLamps x = Scene.of(Due.PLAIN).make();
        Edge.parts(x, 1, 1, "odds", 0, 11, 0);
        Edge.parts(x, 0, 1, "odds", 0, 11, 12);
        Edge.parts(x, 1331, 1728, "odds", 0, 11, 1);
        Edge.parts(x, 1, 1728, "odds", 0, 0, 1);
        Edge.parts(x, 121, 1728, "odds", 0, 9, 1);
        Edge.parts(x, 1, 1728, "odds", 0, 11, 11);
        for (int p : new int[] {-1, 13, Edge.LEAST, Edge.GREATEST}) {
            Edge.bad(Scene.LIT, "odds", 0, 0, p);
            Edge.bad(Scene.LIT, "mid", 0, p);
        }
        Edge.aside(Scene.LIT, 1, "odds", 0, 217, 3);
        Edge.aside(Scene.FULL, 1, "mid", 0, 3);
    }
}
