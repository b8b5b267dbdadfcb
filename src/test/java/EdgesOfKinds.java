/** The edges of promises 26 to 30: which, kinds, next, sums, duel. */
final class EdgesOfKinds {
    private static final int[] NO_ROWS = {-1, 6, Edge.LEAST, Edge.GREATEST};
    private static final int[] NO_LAMPS = {-1, 9, Edge.LEAST, Edge.GREATEST};
    private static final Scene[] WITHOUT_LAMPS = {Scene.FRESH, Scene.BARE};
    private static final Scene PLAIN = Scene.of(Due.PLAIN);
    private static final int L = 1, T = 2, K = 4, H = 8, W = 16, F = 32;

    private EdgesOfKinds() {
    }

    static void run() {
        which();
        kinds();
        kindsByStep();
        kindsAlone();
        kindsOfBroken();
        pairsRefused(27, "kinds");
        kindsOrder();
        next();
        nextNone();
        nextRefused();
        sums();
        sumsRefused();
        duel();
        duelByTurns();
        duelRefused();
    }

    private static void which() {
        Edge.says(26, "Which BUTTONS (bits), PRESSED now, could be the one behind which a picture SHOWS.");
        int[] touches = {11, 23, 38, 89, 186, 308, 200, 464, 416};
        for (int i = 0; i < 9; i++) {
            Edge.aside(PLAIN, 1 << i, "which", touches[i]);
        }
        Edge.aside(PLAIN, 0, "which", 0);
        Edge.aside(PLAIN, 0, "which", 511);
        Edge.aside(Scene.of("k1k1k1k1k1k1k1k1k1"), 511, "which", 511);
        Edge.aside(Scene.of("k1k1k1k1k1k1k1k1l0"), 32 + 128 + 256, "which", 511);
        Edge.aside(Scene.FULL, 16, "which", 1 + 2 + 32 + 64 + 128);
        Edge.says(26, "STATE: no LAMPS; BAD. (In this order.)");
        EdgesOfShows.stateAheadOfBad("which");
    }

    private static void kindsAre(Scene scene, int i, int want, int... pairs) {
        Edge.aside(scene.withRow(2, pairs), want, "kinds", i, 2);
    }

    private static void kinds() {
        Edge.says(27, "Of which KINDS (bits) a LAMP can be, its STEP, all else as it is");
        for (int i = 0; i < 9; i++) {
            kindsAre(PLAIN, i, L + T + K + H + W + F);
            kindsAre(PLAIN, i, L + T + K + W + F, i, 1);
            kindsAre(PLAIN, i, H, i, 0);
        }
        kindsAre(PLAIN, 0, L + T + K + H + W, 1, 1);
        kindsAre(PLAIN, 0, F, 3, 0);
        kindsAre(PLAIN, 0, F, 2, 1);
        kindsAre(PLAIN, 0, L + T + K + H + W, 2, 0);
        kindsAre(PLAIN, 8, F, 6, 1);
        Scene odd = () -> {
            TouchedLamps x = PLAIN.make();
            x.press(8);
            return x;
        };
        kindsAre(odd, 0, L + T + K + F, 0, 1);
        kindsAre(odd, 0, H + W, 0, 0);
        kindsAre(odd, 0, W + F, 1, 0);
        Scene one = Scene.of("l1l0l0l0l0l0l0l0l0");
        kindsAre(one, 0, T + K + H + W, 0, 1);
        kindsAre(one, 0, L + F, 0, 0);
        kindsAre(one, 0, T + K + W + F, 1, 1);
        kindsAre(one, 0, L + H, 1, 0);
    }

    private static void kindsByStep() {
        Edge.says(27, "(none that has not this STEP),");
        for (String wall : new String[] {"t2", "w2"}) {
            Scene two = Scene.of(wall + "l0l0l0l0l0l0l0l0");
            kindsAre(two, 0, T + W);
            kindsAre(two, 0, T + W, 0, 0);
            kindsAre(two, 0, 0, 0, 1);
            kindsAre(two, 0, T + W, 8, 1);
            kindsAre(two, 0, 0, 8, 0);
        }
        for (String wall : new String[] {"l1", "t1", "k1", "h1", "w1", "f1"}) {
            kindsAre(Scene.of(wall + "l0l0l0l0l0l0l0l0"), 0, L + T + K + H + W + F);
        }
    }

    private static int[] pairs(int many, int button, int shown) {
        int[] values = new int[2 * many];
        for (int k = 0; k < many; k++) {
            values[2 * k] = button;
            values[2 * k + 1] = shown;
        }
        return values;
    }

    private static void kindsAlone() {
        Edge.says(27, "by a ROW of 0 to 8 pairs (a BUTTON, PRESSED now, each as if alone; "
            + "whether this LAMP SHOWS then, 1, 0).");
        for (int many = 1; many <= 8; many++) {
            kindsAre(PLAIN, 0, L + T + K + W + F, pairs(many, 0, 1));
            kindsAre(PLAIN, 0, H, pairs(many, 0, 0));
        }
        kindsAre(PLAIN, 0, L + T + K + W, 0, 1, 1, 1);
        kindsAre(PLAIN, 0, L + T + K + W, 1, 1, 0, 1, 8, 0);
        kindsAre(PLAIN, 0, F, 0, 1, 1, 0, 2, 1, 3, 0, 4, 1, 5, 1, 6, 1, 7, 1);
        kindsAre(PLAIN, 0, 0, 0, 1, 0, 0);
        kindsAre(PLAIN, 0, 0, 0, 1, 1, 0, 2, 1, 3, 0, 4, 1, 5, 1, 6, 1, 7, 0);
        kindsAre(Scene.FULL, 0, L + T + K + H + W + F);
    }

    private static void kindsOfBroken() {
        Edge.says(27, "all else as it is");
        Scene broken = () -> {
            TouchedLamps x = PLAIN.make();
            x.crack(0);
            return x;
        };
        kindsAre(broken, 0, L + T + K + H + W + F, 0, 0, 1, 0, 8, 0);
        kindsAre(broken, 0, 0, 0, 1);
        kindsAre(broken, 0, 0, 8, 1);
        kindsAre(broken, 1, L + T + K + H + W, 0, 1);
    }

    /** What kinds() and next() refuse alike. */
    private static void pairsRefused(int promise, String name) {
        Edge.says(promise, "BAD;");
        for (int i : NO_LAMPS) {
            Edge.bad(Scene.LIT, name, i, 4);
        }
        for (int r : NO_ROWS) {
            Edge.bad(Scene.LIT, name, 0, r);
            Edge.bad(Scene.LIT, name, 9, r);
        }
        for (int i = 0; i < 9; i++) {
            Edge.bad(Scene.BARE, name, i, 4);
            Edge.bad(Scene.FRESH, name, i, 0);
        }
        Edge.says(promise, "NOTHING;");
        for (int i = 0; i < 9; i++) {
            Edge.finds(Scene.LIT, Due.NOTHING, name, i, 2);
        }
        Edge.says(promise, promise == 27 ? "SIZE: not by pairs, more than 8;" : "SIZE;");
        for (int size : new int[] {1, 3, 15, 17, 18, 19, 20, 39, 40}) {
            Edge.finds(Scene.LIT.withRow(0, new int[size]), Due.SIZE, name, 0, 0);
        }
        for (int size : new int[] {0, 2, 14, 16}) {
            TouchedLamps x = PLAIN.withRow(0, new int[size]).make();
            Edge.due(name + "() of " + size + " ints is granted", Edge.call(x, name, 0, 0) >= 0 ? 1 : 0, 1);
        }
        Edge.says(promise, "UNLIKE.");
        for (int none : NO_LAMPS) {
            Edge.finds(Scene.LIT.withRow(0, none, 0), Due.UNLIKE, name, 0, 0);
            Edge.finds(Scene.LIT.withRow(0, 0, 0, none, 1), Due.UNLIKE, name, 0, 0);
        }
        for (int none : new int[] {-1, 2, Edge.LEAST, Edge.GREATEST}) {
            Edge.finds(Scene.LIT.withRow(0, 0, none), Due.UNLIKE, name, 0, 0);
            int[] last = pairs(8, 8, 1);
            last[15] = none;
            Edge.finds(Scene.LIT.withRow(0, last), Due.UNLIKE, name, 0, 0);
        }
    }

    private static void kindsOrder() {
        Edge.says(27, "BAD; NOTHING; SIZE: not by pairs, more than 8; UNLIKE.");
        order("kinds");
        Edge.finds(PLAIN.withRow(0, 0, 0, 0, 1, 9, 0), Due.UNLIKE, "kinds", 0, 0);
    }

    private static void order(String name) {
        Edge.bad(Scene.LIT, name, 9, 2);
        Edge.bad(Scene.LIT, name, -1, 5);
        Edge.bad(Scene.LIT.withRow(0, 9, 9), name, 9, 0);
        Edge.bad(Scene.BARE, name, 0, 2);
        Edge.bad(Scene.BARE, name, 0, 5);
        Edge.finds(Scene.LIT, Due.SIZE, name, 0, 5);
        Edge.finds(Scene.LIT, Due.SIZE, name, 0, 3);
        Edge.finds(Scene.LIT.withRow(0, pairs(9, 9, 2)), Due.SIZE, name, 0, 0);
        Edge.finds(Scene.LIT.withRow(0, pairs(8, 9, 2)), Due.UNLIKE, name, 0, 0);
    }

    private static void nextIs(Scene scene, int i, int button, int part, int... pairs) {
        Edge.asks(scene.withRow(2, pairs).make(), button, part, "next", i, 2);
        Edge.aside(scene.withRow(2, pairs), button, "next", i, 2);
    }

    private static void next() {
        Edge.says(28, "The BUTTON (the first) to PRESS now to tell these KINDS apart best: the greatest part by which "
            + "the LAMP SHOWS then, or not, is least; that part by asked().");
        nextIs(PLAIN, 0, 0, 5);
        nextIs(PLAIN, 8, 0, 5);
        Scene one = Scene.of("l1l0l0l0l0l0l0l0l1");
        nextIs(one, 0, 0, 4);
        nextIs(one, 8, 5, 4);
        Scene two = Scene.of("t2l0l0l0l0l0l0l0w2");
        nextIs(two, 0, 0, 2);
        nextIs(two, 8, 0, 2);
        Scene odd = () -> {
            TouchedLamps x = two.make();
            x.press(4);
            return x;
        };
        nextIs(odd, 0, 0, 1);
        nextIs(odd, 8, 5, 1);
        nextIs(PLAIN, 8, 0, 1, 8, 0);
        nextIs(PLAIN, 8, 0, 4, 8, 1, 5, 1);
        nextIs(one, 8, 0, 1, 8, 0);
        nextIs(one, 8, 5, 3, 8, 1);
        Scene broken = () -> {
            TouchedLamps x = PLAIN.make();
            x.crack(0);
            return x;
        };
        nextIs(broken, 0, 0, 6);
        nextIs(Scene.FULL, 0, 0, 4);
    }

    private static void nextNone() {
        Edge.says(28, "NONE: there is no KIND.");
        Edge.refused(PLAIN.withRow(0, 0, 0, 0, 1), Due.NONE, "next", 0, 0);
        Edge.refused(Scene.LIT.withRow(0, 0, 0, 0, 1), Due.NONE, "next", 0, 0);
        Edge.refused(Scene.LIT.withRow(0, 0, 1), Due.NONE, "next", 8, 0);
        Edge.refused(Scene.of("t2l0l0l0l0l0l0l0l0").withRow(0, 0, 1), Due.NONE, "next", 0, 0);
    }

    private static void nextRefused() {
        pairsRefused(28, "next");
        Edge.says(28, "NONE: there is no KIND. BAD; NOTHING; SIZE; UNLIKE.");
        order("next");
        Edge.finds(PLAIN.withRow(0, 0, 0, 0, 1, 9, 0), Due.UNLIKE, "next", 0, 0);
        Edge.finds(PLAIN.withRow(0, 0, 0, 0, 1, 0), Due.SIZE, "next", 0, 0);
    }

    private static void sumsAre(Scene scene, int v, long many, long first) {
        Edge.aside(scene, 1, "sums", v);
        TouchedLamps x = scene.make();
        Edge.parts(x, many, 1, "sums", v);
        Edge.due("sums(" + v + "), asked()", x.asked(), first);
    }

    private static void sums() {
        Edge.says(29, "How many sets of LAMPS have STEPS that come to v (0 .. 18) together, told by upper() "
            + "(lower() is 1); the first by asked() (bits; NONE): 1.");
        sumsAre(PLAIN, 0, 512, 0);
        sumsAre(PLAIN, 1, 0, Due.NONE);
        sumsAre(PLAIN, 18, 0, Due.NONE);
        Scene twos = Scene.of("t2t2t2t2t2t2t2t2t2");
        sumsAre(twos, 18, 1, 511);
        sumsAre(twos, 17, 0, Due.NONE);
        sumsAre(twos, 16, 9, 255);
        sumsAre(twos, 0, 1, 0);
        Scene ones = Scene.of("l1l1l1l1l1l1l1l1l1");
        sumsAre(ones, 4, 126, 15);
        sumsAre(ones, 9, 1, 511);
        sumsAre(ones, 10, 0, Due.NONE);
        sumsAre(Scene.of("t2l1l1f1l0l0l0l0l0"), 2, 32 * 4, 1);
        sumsAre(Scene.of("l0l0l0l0l0l0l0l1t2"), 2, 128, 256);
        sumsAre(Scene.LIT, 8, 0, Due.NONE);
        sumsAre(Scene.LIT, 7, 8, 1 + 8 + 16 + 32 + 64 + 128);
        TouchedLamps broken = ones.make();
        broken.crack(0);
        Edge.parts(broken, 1, 1, "sums", 9);
    }

    private static void sumsRefused() {
        Edge.says(29, "STATE: no LAMPS; BAD. (In this order.)");
        for (int v : new int[] {-1, 19, Edge.LEAST, Edge.GREATEST}) {
            Edge.bad(Scene.LIT, "sums", v);
            Edge.bad(Scene.FULL, "sums", v);
            for (Scene none : WITHOUT_LAMPS) {
                Edge.state(none, "sums", v);
            }
        }
        for (Scene none : WITHOUT_LAMPS) {
            Edge.state(none, "sums", 0);
            Edge.state(none, "sums", 18);
        }
    }

    private static void duelIs(Scene scene, int set, int n, int want) {
        Edge.aside(scene, 1, "duel", set, n);
        Edge.asks(scene.make(), 1, want, "duel", set, n);
    }

    private static void duel() {
        Edge.says(30, "how many LAMPS of a set (0 .. 511) SHOW then, less all others that do,");
        duelIs(Scene.LIT, 217, 0, 5);
        duelIs(Scene.LIT, 511, 0, 5);
        duelIs(Scene.LIT, 0, 0, -5);
        duelIs(Scene.LIT, 511 - 217, 0, -5);
        duelIs(Scene.LIT, 1, 0, 1 - 4);
        duelIs(Scene.of("l1l1l1l1l1l1l1l1l1"), 511, 0, 9);
        duelIs(Scene.of("l1l1l1l1l1l1l1l1l1"), 0, 0, -9);
        duelIs(PLAIN, 511, 0, 0);
    }

    private static void duelByTurns() {
        Edge.says(30, "By turns two PRESS a BUTTON, or none, n (0 .. 2) times each, the first one begins:");
        Scene stuck = Scene.of("k0k0k0k0k0k0k0k0k0");
        duelIs(stuck, 511, 1, 5);
        duelIs(stuck, 0, 1, -5);
        duelIs(stuck, 511, 2, 7);
        duelIs(stuck, 0, 2, -7);
        for (int i = 0; i < 9; i++) {
            duelIs(darkAround(i), 511, 1, 9);
            duelIs(darkAround(i), 0, 1, -9);
        }
        Scene slow = Scene.of("w2w2w2w2w2w2w2w2w2");
        duelIs(slow, 0, 1, -4);
        duelIs(slow, 511, 1, 6);
        Edge.says(30, "the first one wanting that to be much, the second little, told by asked(): 1.");
        duelIs(PLAIN, 511, 1, 0);
        duelIs(PLAIN, 16, 2, -3);
        Scene done = Scene.of("k1k1k1k1k1k1k1k1k1");
        for (int n = 0; n <= 2; n++) {
            duelIs(done, 511, n, 9);
            duelIs(done, 0, n, -9);
            duelIs(done, 15, n, 4 - 5);
        }
        duelIs(Scene.FULL, 217, 0, 5);
        Edge.aside(Scene.FULL, 1, "duel", 217, 2);
    }

    /** STUCK ones, at 1 but for those that one BUTTON touches: by that one alone all SHOW behind one PRESS. */
    private static Scene darkAround(int button) {
        int touched = new int[] {11, 23, 38, 89, 186, 308, 200, 464, 416}[button];
        StringBuilder wall = new StringBuilder();
        for (int i = 0; i < 9; i++) {
            wall.append((touched >> i & 1) == 1 ? "k0" : "k1");
        }
        return Scene.of(wall.toString());
    }

    private static void duelRefused() {
        Edge.says(30, "STATE: no LAMPS; BAD. (In this order.)");
        int[][] bad = {{-1, 0}, {512, 0}, {Edge.LEAST, 2}, {Edge.GREATEST, 2}, {0, -1}, {0, 3}, {511, Edge.LEAST},
            {511, Edge.GREATEST}, {512, 3}, {-1, -1}};
        for (int[] b : bad) {
            Edge.bad(Scene.LIT, "duel", b);
            Edge.bad(Scene.FULL, "duel", b);
            for (Scene none : WITHOUT_LAMPS) {
                Edge.state(none, "duel", b);
            }
        }
        for (Scene none : WITHOUT_LAMPS) {
            Edge.state(none, "duel", 0, 0);
            Edge.state(none, "duel", 511, 2);
        }
    }
}
