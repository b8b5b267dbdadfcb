/** The edges of promises 14 to 19: press, set, crack, undo, keep, on. */
final class EdgesOfDeeds {
    private static final int[] NO_LAMPS = {-1, 9, Edge.LEAST, Edge.GREATEST};
    private static final int[] NO_PLACES = {-1, 3, Edge.LEAST, Edge.GREATEST};
    private static final Scene[] WITHOUT_LAMPS = {Scene.FRESH, Scene.BARE};

    private EdgesOfDeeds() {
    }

    static void run() {
        press();
        pressRefused();
        set();
        setRefused();
        crack();
        crackRefused();
        undo();
        undoAll();
        undoRefused();
        keep();
        keepRefused();
        on();
        onRefused();
    }

    private static void press() {
        Edge.says(14, "A BUTTON is PRESSED: LAMPS (bits) that SHOW then.");
        int[] touches = {11, 23, 38, 89, 186, 308, 200, 464, 416};
        for (int i = 0; i < 9; i++) {
            TouchedLamps x = Scene.of(Due.PLAIN).make();
            Edge.answers(x, touches[i], "press", i);
            Edge.answers(x, 1, "count", 1);
            Edge.answers(x, 1, "count", 2);
            Edge.answers(x, 0, "press", i);
            Edge.answers(x, 2, "count", 1);
        }
        Edge.answers(Scene.of("l1l1l0l1l0l0l0l0l0").make(), 0, "press", 0);
        Edge.answers(Scene.of("k1k1k1k1k1k1k1k1k1").make(), 511, "press", 8);
        TouchedLamps broken = Scene.of(Due.PLAIN).make();
        broken.crack(4);
        Edge.answers(broken, 186 - 16, "press", 4);
        Edge.answers(broken, 1, "count", 1);
        Edge.answers(Scene.LIT.make(), 1 + 2 + 32 + 64 + 128, "press", 4);
    }

    private static void pressRefused() {
        Edge.says(14, "BAD;");
        for (int i : NO_LAMPS) {
            Edge.bad(Scene.LIT, "press", i);
        }
        Edge.says(14, "STATE: no LAMPS (ahead of BAD);");
        for (Scene scene : WITHOUT_LAMPS) {
            Edge.state(scene, "press", 0);
            Edge.state(scene, "press", 8);
            for (int i : NO_LAMPS) {
                Edge.state(scene, "press", i);
            }
        }
        Edge.says(14, "FULL: 40 DEEDS.");
        for (int i = 0; i < 9; i++) {
            Edge.full(Scene.FULL, "press", i);
        }
        TouchedLamps x = Scene.LIT.withDeeds(35).make();
        Edge.due("press(4) is granted as DEED 39", x.press(4) >= 0 ? 1 : 0, 1);
        Edge.answers(x, 40, "count", 2);
        Edge.answers(x, Due.FULL, "press", 4);
        Edge.says(14, "(FULL last.)");
        for (int i : NO_LAMPS) {
            Edge.bad(Scene.FULL, "press", i);
        }
    }

    private static void set() {
        Edge.says(15, "A LAMP is set to a STEP: what it was.");
        TouchedLamps x = Scene.of(Due.MIXED).make();
        int[][] due = { // LAMP, STEP, what it was
            {0, 1, 0}, {0, 0, 1}, {1, 1, 2}, {1, 0, 1}, {1, 2, 0}, {2, 1, 0}, {2, 0, 1}, {3, 0, 1}, {3, 1, 0},
            {4, 2, 1}, {4, 0, 2}, {4, 1, 0}, {5, 1, 0}, {5, 0, 1}, {8, 1, 0}};
        int deeds = 0;
        for (int[] d : due) {
            Edge.answers(x, d[2], "set", d[0], d[1]);
            Edge.asks(x, 1, d[1], "lamp", d[0], 1);
            Edge.answers(x, ++deeds, "count", 2);
        }
        Edge.answers(x, 0, "count", 1);
        x.crack(0);
        Edge.answers(x, 0, "set", 0, 1);
        Edge.asks(x, 1, 0, "lamp", 0, 2);
        x.crack(0);
        Edge.asks(x, 1, 1, "lamp", 0, 2);
    }

    private static void setRefused() {
        Edge.says(15, "BAD: also a STEP that it has not;");
        for (int i = 0; i < 9; i++) {
            boolean three = i == 1 || i == 4 || i == 7;
            for (int step : new int[] {three ? 3 : 2, -1, Edge.LEAST, Edge.GREATEST}) {
                Edge.bad(Scene.LIT, "set", i, step);
            }
        }
        for (int step = 0; step <= 2; step++) {
            for (int i : NO_LAMPS) {
                Edge.bad(Scene.LIT, "set", i, step);
            }
            for (Scene scene : WITHOUT_LAMPS) {
                Edge.bad(scene, "set", 0, step);
            }
        }
        Edge.says(15, "STATE: it is so;");
        int[] steps = {1, 0, 0, 1, 2, 1, 1, 1, 0};
        for (int i = 0; i < 9; i++) {
            Edge.state(Scene.LIT, "set", i, steps[i]);
        }
        Edge.says(15, "FULL. (FULL last.)");
        for (int i = 0; i < 9; i++) {
            Edge.full(Scene.FULL, "set", i, steps[i] == 0 ? 1 : 0);
            Edge.state(Scene.FULL, "set", i, steps[i]);
            Edge.bad(Scene.FULL, "set", i, 3);
            Edge.bad(Scene.FULL, "set", i, -1);
        }
        Edge.bad(Scene.FULL, "set", 0, 2);
        Edge.bad(Scene.FULL, "set", 9, 0);
        TouchedLamps x = Scene.LIT.withDeeds(35).make();
        Edge.answers(x, 2, "set", 4, 0);
        Edge.answers(x, Due.FULL, "set", 4, 2);
        Edge.answers(x, Due.STATE, "set", 4, 0);
    }

    private static void crack() {
        Edge.says(16, "A LAMP is BROKEN, or mended: 1 it is BROKEN then, 0 not.");
        TouchedLamps x = Scene.of("l1t2k1h1w1f0l1t1l1").make();
        for (int i = 0; i < 9; i++) {
            Edge.answers(x, 1, "crack", i);
            Edge.answers(x, (2 << i) - 1, "count", 4);
            Edge.answers(x, 511 - ((2 << i) - 1), "count", 3);
        }
        for (int i = 0; i < 9; i++) {
            Edge.answers(x, 0, "crack", i);
            Edge.answers(x, 511 - ((2 << i) - 1), "count", 4);
        }
        Edge.answers(x, 511, "count", 3);
        Edge.answers(x, 18, "count", 2);
        Edge.answers(x, 0, "count", 1);
    }

    private static void crackRefused() {
        Edge.says(16, "BAD;");
        for (int i : NO_LAMPS) {
            Edge.bad(Scene.LIT, "crack", i);
            Edge.bad(Scene.BARE, "crack", i);
        }
        for (Scene scene : WITHOUT_LAMPS) {
            Edge.bad(scene, "crack", 0);
            Edge.bad(scene, "crack", 8);
        }
        Edge.says(16, "FULL. (FULL last.)");
        for (int i = 0; i < 9; i++) {
            Edge.full(Scene.FULL, "crack", i);
        }
        for (int i : NO_LAMPS) {
            Edge.bad(Scene.FULL, "crack", i);
        }
        TouchedLamps x = Scene.LIT.withDeeds(35).make();
        Edge.answers(x, 0, "crack", 8);
        Edge.answers(x, Due.FULL, "crack", 8);
    }

    private static void undo() {
        Edge.says(17, "DEEDS from number n on are undone: how many.");
        for (int n = 0; n <= 4; n++) {
            TouchedLamps x = Scene.LIT.make();
            Edge.answers(x, 4 - n, "undo", n);
            Edge.answers(x, n, "count", 2);
            Edge.answers(x, new int[] {0, 1, 1, 2, 2}[n], "count", 1);
            Edge.answers(x, n == 4 ? 256 : 0, "count", 4);
            Edge.answers(x, new int[] {5, 5, 7, 7, 7}[n], "count", 5);
            Edge.answers(x, 0, "undo", n);
        }
        Edge.aside(Scene.LIT, 0, "undo", 4);
        Edge.aside(Scene.FULL, 0, "undo", 40);
        for (Scene none : WITHOUT_LAMPS) {
            Edge.aside(none, 0, "undo", 0);
        }
        Edge.aside(Scene.of(Due.MIXED), 0, "undo", 0);
    }

    private static void undoAll() {
        Edge.says(17, "DEEDS from number n on are undone: how many.");
        TouchedLamps x = Scene.FULL.make();
        Edge.answers(x, 1, "undo", 39);
        Edge.answers(x, 1, "crack", 0);
        Edge.answers(x, Due.FULL, "crack", 0);
        Edge.answers(x, 40, "undo", 0);
        Edge.answers(x, 122, "count", 3);
        Edge.answers(x, 2, "count", 10);
        for (int deed = 0; deed < 40; deed++) {
            Edge.answers(x, (deed + 1) % 2, "crack", 3);
        }
        Edge.answers(x, Due.FULL, "crack", 3);
        Edge.answers(x, 2, "on", 0);
        Edge.answers(x, 2, "count", 2);
    }

    private static void undoRefused() {
        Edge.says(17, "BAD.");
        for (int n : new int[] {-1, 5, 40, 41, Edge.LEAST, Edge.GREATEST}) {
            Edge.bad(Scene.LIT, "undo", n);
        }
        for (int n : new int[] {-1, 41, Edge.LEAST, Edge.GREATEST}) {
            Edge.bad(Scene.FULL, "undo", n);
        }
        for (Scene none : WITHOUT_LAMPS) {
            Edge.bad(none, "undo", 1);
            Edge.bad(none, "undo", -1);
        }
    }

    private static void keep() {
        Edge.says(18, "The WALL (as it is, DEEDS) is kept in a place (0 .. 2): how many DEEDS.");
        for (int k = 0; k <= 2; k++) {
            TouchedLamps x = Scene.LIT.make();
            TouchedLamps twin = Scene.LIT.make();
            Edge.answers(x, 4, "keep", k);
            Edge.answers(x, k == 1 ? 3 : 2, "count", 10);
            Edge.answers(x, 217, "count", 3);
            Edge.answers(x, 4, "undo", 0);
            Edge.answers(x, 1, "crack", 0);
            Edge.answers(x, 4, "on", k);
            twin.keep(k);
            Edge.sameElse("kept in place " + k + " as it was", x, twin);
        }
        Edge.answers(Scene.of(Due.MIXED).make(), 0, "keep", 2);
        Edge.answers(Scene.FULL.make(), 40, "keep", 0);
    }

    private static void keepRefused() {
        Edge.says(18, "BAD;");
        for (int k : NO_PLACES) {
            Edge.bad(Scene.LIT, "keep", k);
            Edge.bad(Scene.FULL, "keep", k);
        }
        Edge.says(18, "STATE: no LAMPS.");
        for (Scene none : WITHOUT_LAMPS) {
            for (int k = 0; k <= 2; k++) {
                Edge.state(none, "keep", k);
            }
            for (int k : NO_PLACES) {
                Edge.bad(none, "keep", k);
            }
        }
    }

    private static void on() {
        Edge.says(19, "The WALL is as it was kept: how many DEEDS.");
        TouchedLamps x = Scene.LIT.make();
        Edge.answers(x, 2, "on", 0);
        Edge.answers(x, 1, "count", 1);
        Edge.answers(x, 32, "count", 4);
        Edge.answers(x, 208, "count", 3);
        Edge.answers(x, 3, "on", 2);
        Edge.answers(x, 2, "count", 1);
        Edge.answers(x, 0, "count", 4);
        Edge.answers(x, 217, "count", 3);
        Edge.answers(x, 1, "undo", 2);
        Edge.answers(x, 1, "undo", 1);
        Edge.answers(x, 208, "count", 3);
        Edge.answers(x, 3, "on", 2);
        TouchedLamps full = Scene.FULL.make();
        TouchedLamps twin = Scene.FULL.make();
        twin.keep(1);
        Edge.answers(full, 40, "keep", 1);
        otherDeeds(full);
        Edge.answers(full, 40, "on", 1);
        Edge.sameElse("on(1) behind 40 other DEEDS", full, twin);
        otherDeeds(full);
        Edge.answers(full, 40, "on", 1);
        Edge.answers(full, Due.FULL, "press", 0);
        Edge.answers(full, 2, "on", 0);
        Edge.due("press(0) behind on(0)", full.press(0) >= 0 ? 1 : 0, 1);
        Edge.answers(full, 3, "count", 2);
    }

    /** 40 DEEDS, each of which is another one than that of its number in FULL. */
    private static void otherDeeds(TouchedLamps x) {
        x.undo(0);
        for (int deed = 0; deed < 40; deed++) {
            x.press(8);
        }
        Edge.answers(x, 40, "count", 2);
    }

    private static void onRefused() {
        Edge.says(19, "BAD;");
        for (int k : NO_PLACES) {
            for (Scene scene : new Scene[] {Scene.FRESH, Scene.BARE, Scene.LIT, Scene.FULL}) {
                Edge.bad(scene, "on", k);
            }
        }
        Edge.says(19, "NOTHING.");
        Edge.finds(Scene.LIT, Due.NOTHING, "on", 1);
        Edge.finds(Scene.FULL, Due.NOTHING, "on", 1);
        for (Scene none : WITHOUT_LAMPS) {
            for (int k = 0; k <= 2; k++) {
                Edge.finds(none, Due.NOTHING, "on", k);
            }
        }
    }
}
