/** The edges of promises 10 to 13: fault, wall, lamp, mark. */
final class EdgesOfWalls {
    private static final int[] NO_TEXTS = {-1, 4, Edge.LEAST, Edge.GREATEST};
    private static final int[] NO_LAMPS = {-1, 9, Edge.LEAST, Edge.GREATEST};
    private static final Scene[] SCENES = {Scene.BARE, Scene.LIT, Scene.FULL};

    private EdgesOfWalls() {
    }

    static void run() {
        fault();
        wall();
        wallRefused();
        lamp();
        lampNow();
        lampRefused();
        markThree();
        markStuck();
        markShy();
        markSlow();
        markFalse();
        markRefused();
    }

    private static void fault() {
        for (Scene scene : SCENES) {
            Edge.says(10, "A FAULT of a TEXT;");
            Edge.aside(scene, 3, "fault", 1);
            Edge.aside(scene, 0, "fault", 2);
            Edge.says(10, "NONE: there is none.");
            Edge.refused(scene, Due.NONE, "fault", 0);
            Edge.says(10, "BAD;");
            for (int t : NO_TEXTS) {
                Edge.bad(scene, "fault", t);
            }
            Edge.says(10, "NOTHING.");
            Edge.finds(scene, Due.NOTHING, "fault", 3);
        }
    }

    private static void wall() {
        Edge.says(11, "A WALL by a TEXT (anew: PRESS 0, nothing BROKEN, no DEEDS; kept WALLS go): 9.");
        for (Scene scene : SCENES) {
            TouchedLamps x = scene.make();
            int rows = x.count(8);
            int asked = x.asked();
            long upper = x.upper();
            Edge.answers(x, 9, "wall", 0);
            int[] counts = {9, 0, 0, 2 + 8 + 16 + 32 + 64, 0, 5, 3, 2, rows, 3, 0};
            for (int what = 0; what <= 10; what++) {
                Edge.answers(x, counts[what], "count", what);
            }
            Edge.answers(x, 0, "undo", 0);
            Edge.answers(x, Due.BAD, "undo", 1);
            for (int k = 0; k < 3; k++) {
                Edge.answers(x, Due.FINDING, "on", k);
                Edge.answers(x, Due.NOTHING, "finding");
            }
            Edge.answers(x, asked, "asked");
            Edge.answers(x, upper, "upper");
        }
        TouchedLamps x = Scene.LIT.make();
        x.put(0, 0, 't');
        Edge.asks(x, 1, 0, "lamp", 0, 0);
        x.text(0, 0);
        Edge.answers(x, 217, "count", 3);
    }

    private static void wallRefused() {
        for (Scene scene : SCENES) {
            Edge.says(11, "BAD;");
            for (int t : NO_TEXTS) {
                Edge.bad(scene, "wall", t);
            }
            Edge.says(11, "NOTHING;");
            Edge.finds(scene, Due.NOTHING, "wall", 3);
            Edge.says(11, "STATE: a FAULT.");
            Edge.state(scene, "wall", 1);
            Edge.state(scene, "wall", 2);
            Edge.says(11, "(STATE behind NOTHING.)");
            Edge.finds(scene, Due.NOTHING, "wall", 3);
        }
        TouchedLamps x = Scene.LIT.make();
        Due.write(x, 3, "t2t2t2t2t2t2t2t2t2t2");
        TouchedLamps twin = Scene.LIT.make();
        Due.write(twin, 3, "t2t2t2t2t2t2t2t2t2t2");
        Edge.answers(x, Due.STATE, "wall", 3);
        Edge.sameElse("nine LAMPS were read ahead of the FAULT", x, twin);
    }

    /** Two of each STEP of a THREE and of the FALSE ones; none is BROKEN, PRESS 0 is next. */
    private static void lamp() {
        TouchedLamps x = Scene.of("l1t2k0h1w2f0f1w0k1").make();
        Edge.says(12, "Of a LAMP: 0 the KIND,");
        told(x, 0, 0, 1, 2, 3, 4, 5, 5, 4, 2);
        Edge.says(12, "1 the STEP,");
        told(x, 1, 1, 2, 0, 1, 2, 0, 1, 0, 1);
        Edge.says(12, "2 whether it SHOWS (1, 0),");
        told(x, 2, 1, 1, 0, 1, 1, 1, 0, 0, 1);
        Edge.says(12, "3 whether it is BROKEN (1, 0),");
        told(x, 3, 0, 0, 0, 0, 0, 0, 0, 0, 0);
        x.crack(0);
        x.crack(8);
        told(x, 3, 1, 0, 0, 0, 0, 0, 0, 0, 1);
        x.crack(0);
        told(x, 3, 0, 0, 0, 0, 0, 0, 0, 0, 1);
        Edge.says(12, "4 LAMPS that its BUTTON touches (bits, BROKEN or not),");
        x.crack(4);
        told(x, 4, 11, 23, 38, 89, 186, 308, 200, 464, 416);
    }

    private static void lampNow() {
        Edge.says(12, "5 the STEP to which its own BUTTON would bring it now (BROKEN or not), told by asked(): 1.");
        TouchedLamps x = Scene.of("l1t2k0h1w2f0f1w0k1").make();
        told(x, 5, 0, 0, 1, 1, 0, 0, 1, 1, 1);
        for (int i = 0; i < 9; i++) {
            x.crack(i);
        }
        told(x, 5, 0, 0, 1, 1, 0, 0, 1, 1, 1);
        x.press(0);
        told(x, 5, 0, 0, 1, 1, 2, 0, 1, 0, 1);
        x.press(0);
        told(x, 5, 0, 0, 1, 1, 0, 0, 1, 1, 1);
        for (int i = 0; i < 9; i++) {
            Edge.aside(Scene.LIT, 1, "lamp", i, 5);
        }
    }

    private static void told(TouchedLamps x, int what, int... values) {
        for (int i = 0; i < 9; i++) {
            Edge.asks(x, 1, values[i], "lamp", i, what);
        }
    }

    private static void lampRefused() {
        Edge.says(12, "BAD (also without LAMPS).");
        for (int what = 0; what <= 5; what++) {
            Edge.bad(Scene.FRESH, "lamp", 0, what);
            Edge.bad(Scene.BARE, "lamp", 8, what);
            for (int i : NO_LAMPS) {
                Edge.bad(Scene.LIT, "lamp", i, what);
            }
        }
        for (int what : new int[] {-1, 6, Edge.LEAST, Edge.GREATEST}) {
            Edge.bad(Scene.LIT, "lamp", 0, what);
            Edge.bad(Scene.BARE, "lamp", 0, what);
        }
    }

    private static void marks(Scene scene, int kind, int... values) {
        for (int i = 0; i < values.length; i++) {
            if (values[i] >= 0) {
                Edge.aside(scene, values[i], "mark", i, kind);
            } else {
                Edge.finds(scene, Due.UNLIKE, "mark", i, kind);
            }
        }
    }

    private static void markThree() {
        Edge.says(13, "What a LAMP that IS of a KIND tells: "
            + "a THREE (SLOW, too) how many touches that count bring it to 0 (0 .. 2),");
        Scene scene = Scene.of("t0t1t2w0w1w2l1k1h1");
        marks(scene, 1, 0, 2, 1, 0, 2, 1, -1, -1, -1);
        TouchedLamps x = scene.make();
        x.press(8);
        for (int i = 0; i < 9; i++) {
            x.crack(i);
        }
        for (int i = 0; i < 6; i++) {
            Edge.answers(x, new int[] {0, 2, 1, 0, 2, 0}[i], "mark", i, 1);
        }
    }

    private static void markStuck() {
        Edge.says(13, "a STUCK one how many LAMPS that are STUCK are at 0,");
        marks(Scene.of("k0k0k0k0k0k0k0k0k0"), 2, 9, 9, 9, 9, 9, 9, 9, 9, 9);
        marks(Scene.of("k1k1k1k1k1k1k1k1k1"), 2, 0, 0, 0, 0, 0, 0, 0, 0, 0);
        Scene mixed = Scene.of("k0l0k1t0k0w0k1h0f0");
        marks(mixed, 2, 2, -1, 2, -1, 2, -1, 2, -1, -1);
        TouchedLamps x = mixed.make();
        x.crack(0);
        Edge.answers(x, 2, "mark", 0, 2);
        Edge.answers(x, 2, "mark", 2, 2);
    }

    private static void markShy() {
        Edge.says(13, "a SHY one (FALSE, too) how many other BUTTONS touch it,");
        marks(Scene.of("h0f0h1f1h0f0h1f1h0"), 3, 2, 3, 2, 3, 4, 3, 2, 3, 2);
        marks(Scene.of("f0h0f1h1f0h0f1h1f0"), 3, 2, 3, 2, 3, 4, 3, 2, 3, 2);
        marks(Scene.of("h0l0t0k0w0h0h0h0f0"), 3, 2, -1, -1, -1, -1, 3, 2, 3, 2);
    }

    private static void markSlow() {
        Edge.says(13, "a SLOW one in how many PRESSES more one of an even number comes (0, 1),");
        Scene scene = Scene.of("w0w1w2t0t1t2l0k0f0");
        marks(scene, 4, 0, 0, 0, -1, -1, -1, -1, -1, -1);
        TouchedLamps x = scene.make();
        for (int number = 1; number <= 40; number++) {
            x.press(8);
            Edge.answers(x, number % 2, "mark", 0, 4);
        }
        TouchedLamps y = scene.make();
        y.crack(0);
        Edge.answers(y, 0, "mark", 0, 4);
        y.set(1, 0);
        Edge.answers(y, 0, "mark", 1, 4);
    }

    private static void markFalse() {
        Edge.says(13, "a FALSE one how many other LAMPS SHOW.");
        marks(Scene.of("f0f0f0f0f0f0f0f0f0"), 5, 8, 8, 8, 8, 8, 8, 8, 8, 8);
        marks(Scene.of("f1f1f1f1f1f1f1f1f1"), 5, 0, 0, 0, 0, 0, 0, 0, 0, 0);
        Scene mixed = Scene.of("f0f1l1l0t2k1h0w0h1");
        marks(mixed, 5, 4, 5, -1, -1, -1, -1, -1, -1, -1);
        TouchedLamps x = mixed.make();
        x.crack(0);
        Edge.answers(x, 4, "mark", 0, 5);
        Edge.answers(x, 4, "mark", 1, 5);
        x.crack(2);
        Edge.answers(x, 3, "mark", 1, 5);
    }

    private static void markRefused() {
        Edge.says(13, "BAD: also KIND 0;");
        for (int kind : new int[] {0, -1, 6, Edge.LEAST, Edge.GREATEST}) {
            for (int i : new int[] {0, 1, 8, 9}) {
                Edge.bad(Scene.LIT, "mark", i, kind);
            }
        }
        for (int kind = 1; kind <= 5; kind++) {
            for (int i : NO_LAMPS) {
                Edge.bad(Scene.LIT, "mark", i, kind);
            }
            Edge.bad(Scene.FRESH, "mark", 0, kind);
            Edge.bad(Scene.BARE, "mark", 0, kind);
        }
        Edge.says(13, "UNLIKE.");
        int[] are = {0, 1 << 1, 1 << 2, 1 << 3, 1 << 1 | 1 << 4, 1 << 3 | 1 << 5};
        for (int i = 0; i < 6; i++) {
            for (int kind = 1; kind <= 5; kind++) {
                if ((are[i] >> kind & 1) == 0) {
                    Edge.finds(Scene.LIT, Due.UNLIKE, "mark", i, kind);
                    Edge.finds(Scene.FULL, Due.UNLIKE, "mark", i, kind);
                }
            }
        }
    }
}
