/** The edges of promises 20 to 25: touched, shows, most, fewest, ways, sure. */
final class EdgesOfShows {
    private static final int[] NO_ROWS = {-1, 6, Edge.LEAST, Edge.GREATEST};
    private static final int[] NO_LAMPS = {-1, 9, Edge.LEAST, Edge.GREATEST};
    private static final int[] NO_PICTURES = {-1, 512, Edge.LEAST, Edge.GREATEST};
    private static final Scene[] WITHOUT_LAMPS = {Scene.FRESH, Scene.BARE};
    private static final Scene PLAIN = Scene.of(Due.PLAIN);
    private static final Scene STUCK = Scene.of("k1k1k1k1k1k1k1k1k1");
    private static final Scene SLOWS = Scene.of("w0w0w0w0w0w0w0w0w0");

    private EdgesOfShows() {
    }

    static void run() {
        touched();
        touchedRefused();
        shows();
        showsRefused();
        showsOrder();
        most();
        fewest();
        fewestFirst();
        fewestNone();
        fewestRefused();
        ways();
        waysInOrder();
        waysRefused();
        sure();
        sureRefused();
    }

    /** In LIT and FULL the LAMPS 0 to 5 are one of each KIND: a letter by the LAMP's number. */
    private static void touched() {
        Edge.says(20, "The STEP of a LAMP that is at a STEP (one that it has), touched in a PRESS of a number (0 .. 999), "
            + "by its own BUTTON (1), or another one (0).");
        int[][] byOther = {{1, 0}, {1, 2, 0}, {1, 1}, {1, 0}, {1, 2, 0}, {1, 0}};
        int[][] byOwn = {{1, 0}, {1, 2, 0}, {1, 1}, {0, 1}, {1, 2, 0}, {0, 1}};
        for (int i = 0; i < 6; i++) {
            for (int step = 0; step < byOwn[i].length; step++) {
                for (int number : new int[] {0, 1, 2, 3, 998, 999}) {
                    boolean stays = i == 4 && number % 2 == 1;
                    Edge.aside(Scene.LIT, stays ? step : byOwn[i][step], "touched", i, step, 1, number);
                    Edge.aside(Scene.FULL, stays ? step : byOther[i][step], "touched", i, step, 0, number);
                }
            }
        }
        Edge.answers(Scene.LIT.make(), 1, "touched", 8, 0, 1, 0);
    }

    private static void touchedRefused() {
        Edge.says(20, "BAD.");
        for (int number : new int[] {-1, 1000, Edge.LEAST, Edge.GREATEST}) {
            Edge.bad(Scene.LIT, "touched", 0, 0, 0, number);
            Edge.bad(Scene.LIT, "touched", 4, 0, 1, number);
        }
        for (int own : new int[] {-1, 2, Edge.LEAST, Edge.GREATEST}) {
            Edge.bad(Scene.LIT, "touched", 0, 0, own, 0);
        }
        for (int i = 0; i < 9; i++) {
            boolean three = i == 1 || i == 4 || i == 7;
            for (int step : new int[] {-1, three ? 3 : 2, Edge.LEAST, Edge.GREATEST}) {
                Edge.bad(Scene.LIT, "touched", i, step, 0, 0);
            }
        }
        for (int i : NO_LAMPS) {
            Edge.bad(Scene.LIT, "touched", i, 0, 0, 0);
        }
        for (Scene none : WITHOUT_LAMPS) {
            Edge.bad(none, "touched", 0, 0, 0, 0);
        }
    }

    private static int[] many(int n, int value) {
        int[] values = new int[n];
        java.util.Arrays.fill(values, value);
        return values;
    }

    private static void shows() {
        Edge.says(21, "LAMPS (bits) that SHOW behind PRESSES of BUTTONS of a ROW (0 to 20 ints), one behind the other.");
        Edge.aside(Scene.LIT, 217, "shows", 1);
        Edge.aside(Scene.FULL, 217, "shows", 1);
        Edge.aside(PLAIN.withRow(0), 0, "shows", 0);
        for (int i : new int[] {0, 4, 8}) {
            int touched = new int[] {11, 0, 0, 0, 186, 0, 0, 0, 416}[i];
            Edge.aside(PLAIN.withRow(0, i), touched, "shows", 0);
            Edge.aside(PLAIN.withRow(0, many(19, i)), touched, "shows", 0);
            Edge.aside(PLAIN.withRow(5, many(20, i)), 0, "shows", 5);
        }
        Edge.aside(PLAIN.withRow(0, 0, 8, 4), 11 ^ 416 ^ 186, "shows", 0);
        Edge.aside(SLOWS.withRow(0, 0, 8), 11, "shows", 0);
        Edge.aside(SLOWS.withRow(0, 8, 0), 416, "shows", 0);
        Edge.aside(SLOWS.withRow(0, 0, 0, 0, 8), 11, "shows", 0);
        Edge.aside(SLOWS.withRow(0, 0, 0, 0, 0, 0), 0, "shows", 0);
        TouchedLamps odd = SLOWS.withRow(0, 0, 8).make();
        odd.press(4);
        odd.press(4);
        odd.press(4);
        Edge.answers(odd, 186 - 32 - 128 + 256, "shows", 0);
    }

    private static void showsRefused() {
        Edge.says(21, "BAD;");
        for (int r : NO_ROWS) {
            Edge.bad(Scene.LIT, "shows", r);
        }
        Edge.says(21, "NOTHING;");
        Edge.finds(Scene.LIT, Due.NOTHING, "shows", 2);
        Edge.says(21, "SIZE;");
        Edge.finds(Scene.LIT, Due.SIZE, "shows", 3);
        Edge.finds(Scene.LIT.withRow(0, many(21, 0)), Due.SIZE, "shows", 0);
        Edge.due("shows() of 20 ints", Scene.LIT.withRow(0, many(20, 0)).make().shows(0) >= 0 ? 1 : 0, 1);
        Edge.says(21, "UNLIKE: not 0 .. 8.");
        for (int none : NO_LAMPS) {
            Edge.finds(Scene.LIT.withRow(0, none), Due.UNLIKE, "shows", 0);
            Edge.finds(Scene.LIT.withRow(0, none, 0, 1), Due.UNLIKE, "shows", 0);
            int[] last = many(20, 8);
            last[19] = none;
            Edge.finds(Scene.LIT.withRow(0, last), Due.UNLIKE, "shows", 0);
        }
    }

    private static void showsOrder() {
        Edge.says(21, "STATE: no LAMPS; BAD; NOTHING; SIZE; UNLIKE: not 0 .. 8. (In this order.)");
        for (int r : NO_ROWS) {
            Edge.state(Scene.FRESH, "shows", r);
            Edge.state(Scene.BARE, "shows", r);
        }
        for (int r = 0; r <= 5; r++) {
            Edge.state(Scene.FRESH, "shows", r);
            Edge.state(Scene.BARE, "shows", r);
        }
        Edge.finds(Scene.LIT.withRow(0, many(21, 9)), Due.SIZE, "shows", 0);
        Edge.finds(Scene.LIT.withRow(0, many(20, 9)), Due.UNLIKE, "shows", 0);
    }

    private static void most() {
        Edge.says(22, "The BUTTON behind which, PRESSED now, most LAMPS SHOW (the first); how many by asked().");
        Edge.asks(PLAIN.make(), 4, 5, "most");
        Edge.asks(STUCK.make(), 0, 9, "most");
        Edge.asks(Scene.of("l1l1l1l1l1l1l1l1l1").make(), 0, 6, "most");
        Edge.asks(Scene.of("l0k1k1k1k1k1k1k1k1").make(), 0, 9, "most");
        Edge.asks(Scene.of("k1k1k1k1k1k1k1k1l0").make(), 5, 9, "most");
        Edge.asks(Scene.of("k1k1k1k1k1k1k1l1h0").make(), 5, 9, "most");
        TouchedLamps broken = PLAIN.make();
        for (int i = 0; i < 9; i++) {
            broken.crack(i);
        }
        Edge.asks(broken, 0, 0, "most");
        TouchedLamps slow = SLOWS.make();
        slow.press(0);
        Edge.asks(slow, 0, 3, "most");
        Edge.aside(Scene.FULL, 2, "most");
        Edge.asks(Scene.FULL.make(), 2, 8, "most");
        Edge.says(22, "STATE: no LAMPS.");
        for (Scene none : WITHOUT_LAMPS) {
            Edge.state(none, "most");
        }
    }

    /** On a wall of plain LAMPS each picture is that of one set of BUTTONS alone, in whatever order. */
    private static void fewest() {
        Edge.says(23, "The fewest PRESSES (0 to 4) behind which a picture SHOWS;");
        int[] touches = {11, 38, 186, 200, 416};
        int[] buttons = {0, 2, 4, 6, 8};
        int picture = 0;
        for (int n = 0; n <= 4; n++) {
            TouchedLamps x = PLAIN.withRow(3, many(40, 7)).make();
            Edge.answers(x, n, "fewest", picture, 3);
            EdgesOfRows.holds(x, 3, java.util.Arrays.copyOf(buttons, n));
            picture ^= touches[n];
        }
        Edge.refused(PLAIN, Due.NONE, "fewest", picture, 3);
        Edge.due("all five", picture, 511);
        Edge.answers(Scene.LIT.make(), 0, "fewest", 217, 0);
        Edge.answers(Scene.FULL.make(), 1, "fewest", 1 + 2 + 32 + 64 + 128, 0);
        Edge.answers(STUCK.make(), 0, "fewest", 511, 0);
        Edge.refused(STUCK, Due.NONE, "fewest", 0, 0);
        TouchedLamps slow = SLOWS.make();
        Edge.answers(slow, 3, "fewest", 11 | 416, 0);
        slow.press(4);
        Edge.answers(slow, 4, "fewest", 186 | 11 | 416, 0);
    }

    private static void fewestFirst() {
        Edge.says(23, "the first BUTTONS by which it does come to a ROW (anew).");
        for (int r = 0; r <= 5; r++) {
            TouchedLamps x = Scene.BARE.make();
            x.text(0, 18);
            Due.write(x, 0, Due.PLAIN);
            x.wall(0);
            Edge.answers(x, 2, "fewest", 23 ^ 416, r);
            EdgesOfRows.holds(x, r, 1, 8);
            Edge.answers(x, 0, "fewest", 0, r);
            EdgesOfRows.holds(x, r);
            Edge.answers(x, r == 2 ? 6 : 5, "count", 8);
        }
        TouchedLamps stuck = Scene.of("k0k1k1k1k1k1k1k1k0").make();
        Edge.answers(stuck, 2, "fewest", 511, 0);
        EdgesOfRows.holds(stuck, 0, 0, 5);
        TouchedLamps last = Scene.of("k1k1k1k1k1k1k1k1k0").make();
        Edge.answers(last, 1, "fewest", 511, 0);
        EdgesOfRows.holds(last, 0, 5);
        TouchedLamps slow = SLOWS.make();
        Edge.answers(slow, 3, "fewest", 11 | 416, 0);
        EdgesOfRows.holds(slow, 0, 0, 0, 8);
    }

    private static void fewestNone() {
        Edge.says(23, "NONE: by none of these.");
        Edge.refused(PLAIN.withRow(2, 6, 6), Due.NONE, "fewest", 511, 2);
        Edge.refused(PLAIN, Due.NONE, "fewest", 511, 5);
        Edge.refused(PLAIN, Due.NONE, "fewest", 1, 0);
        Edge.refused(Scene.LIT, Due.NONE, "fewest", 256, 0);
        Edge.refused(Scene.FULL, Due.NONE, "fewest", 511, 3);
    }

    private static void fewestRefused() {
        Edge.says(23, "STATE: no LAMPS; BAD. (In this order.)");
        for (int picture : NO_PICTURES) {
            Edge.bad(Scene.LIT, "fewest", picture, 0);
            Edge.bad(Scene.LIT, "fewest", picture, 6);
            for (Scene none : WITHOUT_LAMPS) {
                Edge.state(none, "fewest", picture, 0);
                Edge.state(none, "fewest", picture, 6);
            }
        }
        for (int r : NO_ROWS) {
            Edge.bad(Scene.LIT, "fewest", 217, r);
            Edge.bad(Scene.LIT, "fewest", 256, r);
            for (Scene none : WITHOUT_LAMPS) {
                Edge.state(none, "fewest", 0, r);
            }
        }
        for (Scene none : WITHOUT_LAMPS) {
            Edge.state(none, "fewest", 0, 0);
            Edge.state(none, "fewest", 511, 5);
        }
    }

    private static void waysAre(TouchedLamps x, int picture, long many, long least) {
        Edge.parts(x, many, 1, "ways", picture);
        Edge.asks(x, 1, least, "ways", picture);
    }

    private static void ways() {
        Edge.says(24, "By how many sets of BUTTONS, each PRESSED once, from the least number on, a picture SHOWS, "
            + "told by upper() (lower() is 1); the least by asked() (bits; NONE): 1.");
        waysAre(PLAIN.make(), 0, 1, 0);
        waysAre(PLAIN.make(), 511, 1, 341);
        waysAre(PLAIN.make(), 416, 1, 256);
        waysAre(STUCK.make(), 511, 512, 0);
        waysAre(STUCK.make(), 510, 0, Due.NONE);
        waysAre(STUCK.make(), 0, 0, Due.NONE);
        waysAre(Scene.of("k0k1k1k1k1k1k1k1k1").make(), 511, 448, 1);
        waysAre(Scene.of("k0k1k1k1k1k1k1k1k1").make(), 510, 64, 0);
        waysAre(Scene.of("k1k1k1k1k1k1k1k1k0").make(), 511, 448, 32);
        TouchedLamps broken = PLAIN.make();
        broken.crack(0);
        waysAre(broken, 1, 0, Due.NONE);
        waysAre(broken, 0, 2, 0);
        Edge.aside(Scene.FULL, 1, "ways", 511);
    }

    /** By hand: the SLOW one is touched by BUTTONS 5, 7, 8, and moves as so many of the set are ahead of them. */
    private static void waysInOrder() {
        Edge.says(24, "each PRESSED once, from the least number on, a picture SHOWS");
        TouchedLamps x = Scene.of("k1k1k1k1k1k1k1k1w0").make();
        waysAre(x, 511, 16 * (7 + 5 + 4 + 4), 32);
        waysAre(x, 255, 512 - 320, 0);
        x.press(0);
        waysAre(x, 511, 320, 33);
        waysAre(x, 255, 192, 0);
    }

    private static void waysRefused() {
        Edge.says(24, "STATE: no LAMPS; BAD. (In this order.)");
        stateAheadOfBad("ways");
    }

    static void stateAheadOfBad(String name) {
        for (int picture : NO_PICTURES) {
            Edge.bad(Scene.LIT, name, picture);
            Edge.bad(Scene.FULL, name, picture);
            for (Scene none : WITHOUT_LAMPS) {
                Edge.state(none, name, picture);
            }
        }
        for (Scene none : WITHOUT_LAMPS) {
            Edge.state(none, name, 0);
            Edge.state(none, name, 511);
        }
    }

    private static void sure() {
        Edge.says(25, "BUTTONS (bits) that are in each such set; those in none by asked().");
        Edge.asks(PLAIN.make(), 0, 511, "sure", 0);
        Edge.asks(PLAIN.make(), 341, 170, "sure", 511);
        Edge.asks(STUCK.make(), 0, 0, "sure", 511);
        Edge.asks(Scene.of("k0k1k1k1k1k1k1k1k1").make(), 0, 11, "sure", 510);
        Edge.asks(Scene.of("k1k1k1k1k1k1k1k1k0").make(), 0, 416, "sure", 255);
        TouchedLamps slow = SLOWS.make();
        Edge.asks(slow, 1, 0, "sure", 11);
        Edge.aside(Scene.FULL, Scene.LIT.make().sure(217), "sure", 217);
        TouchedLamps told = Scene.LIT.make();
        long upper = told.upper();
        told.sure(217);
        Edge.due("upper() behind sure()", told.upper(), upper);
    }

    private static void sureRefused() {
        Edge.says(25, "STATE; BAD; NOUGHT: there is no set. (In this order.)");
        stateAheadOfBad("sure");
        Edge.finds(STUCK, Due.NOUGHT, "sure", 510);
        Edge.finds(STUCK, Due.NOUGHT, "sure", 0);
        Edge.finds(Scene.LIT, Due.NOUGHT, "sure", 256);
        Edge.finds(Scene.FULL, Due.NOUGHT, "sure", 511);
        for (Scene none : WITHOUT_LAMPS) {
            Edge.state(none, "sure", 256);
        }
    }
}
