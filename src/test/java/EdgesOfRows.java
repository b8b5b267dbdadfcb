/** The edges of promises 1 to 9: a new object, row, lay, at, tear, copy, mean, text, put. */
final class EdgesOfRows {
    private static final int[] NO_ROWS = {-1, 6, Edge.LEAST, Edge.GREATEST};
    private static final int[] NO_TEXTS = {-1, 4, Edge.LEAST, Edge.GREATEST};
    private static final Scene[] SCENES = {Scene.BARE, Scene.LIT, Scene.FULL};

    private EdgesOfRows() {
    }

    static void run() {
        newObject();
        row();
        rowRefused();
        lay();
        layRefused();
        at();
        tear();
        copy();
        copyRefused();
        copyBeyond();
        copyOrder();
        mean();
        meanRefused();
        text();
        textRefused();
        put();
        putRefused();
    }

    static void holds(TouchedLamps x, int r, int... values) {
        for (int i = 0; i < values.length; i++) {
            Edge.asks(x, 1, values[i], "at", r, i);
        }
        int before = x.findings(Due.BEYOND);
        Edge.answers(x, Due.FINDING, "at", r, values.length);
        Edge.due("ROW " + r + " has no place " + values.length, x.findings(Due.BEYOND), before + 1);
    }

    private static void newObject() {
        Edge.says(1, "No ROWS, TEXTS, LAMPS.");
        for (int what = 0; what <= 10; what++) {
            Edge.answers(new TouchedLamps(), 0, "count", what);
        }
        for (int r = 0; r < 6; r++) {
            Edge.finds(Scene.FRESH, Due.NOTHING, "at", r, 0);
        }
        for (int t = 0; t < 4; t++) {
            Edge.finds(Scene.FRESH, Due.NOTHING, "put", t, 0, 0);
        }
        for (int i = 0; i < 9; i++) {
            Edge.state(Scene.FRESH, "press", i);
            Edge.bad(Scene.FRESH, "lamp", i, 0);
        }
        for (int k = 0; k < 3; k++) {
            Edge.finds(Scene.FRESH, Due.NOTHING, "on", k);
        }
    }

    private static void row() {
        Edge.says(2, "A ROW is there with n ints 0: n.");
        for (int n : new int[] {0, 1, 39, 40}) {
            TouchedLamps x = Scene.LIT.make();
            Edge.answers(x, n, "row", 2, n);
            holds(x, 2, new int[n]);
        }
        TouchedLamps anew = Scene.LIT.make();
        Edge.answers(anew, 40, "row", 3, 40);
        holds(anew, 3, new int[40]);
        Edge.answers(anew, 2, "row", 3, 2);
        Edge.answers(anew, 40, "row", 3, 40);
        holds(anew, 3, new int[40]);
        Edge.answers(anew, 0, "row", 0, 0);
        Edge.answers(anew, 5, "count", 8);
    }

    private static void rowRefused() {
        Edge.says(2, "BAD: also n above 40;");
        for (Scene scene : SCENES) {
            for (int r : NO_ROWS) {
                Edge.bad(scene, "row", r, 0);
                Edge.bad(scene, "row", r, 41);
            }
            Edge.bad(scene, "row", 0, 41);
            Edge.bad(scene, "row", 5, Edge.GREATEST);
        }
        Edge.answers(Scene.LIT.make(), 40, "row", 0, 40);
        Edge.says(2, "SIZE: below 0.");
        for (Scene scene : SCENES) {
            Edge.finds(scene, Due.SIZE, "row", 0, -1);
            Edge.finds(scene, Due.SIZE, "row", 2, -1);
            Edge.finds(scene, Due.SIZE, "row", 5, Edge.LEAST);
        }
        Edge.answers(Scene.LIT.make(), 0, "row", 0, 0);
        for (int r : NO_ROWS) {
            Edge.bad(Scene.LIT, "row", r, -1);
        }
    }

    private static void lay() {
        Edge.says(3, "Place i of a ROW is v: what it was, told by asked(): 1.");
        TouchedLamps x = Scene.BARE.make();
        Edge.asks(x, 1, 9, "lay", 3, 0, Edge.GREATEST);
        Edge.asks(x, 1, Edge.GREATEST, "lay", 3, 0, Edge.LEAST);
        Edge.asks(x, 1, Edge.LEAST, "lay", 3, 0, 0);
        Edge.asks(x, 1, 3, "lay", 3, 39, -9);
        Edge.asks(x, 1, -9, "at", 3, 39);
        Edge.asks(x, 1, 0, "at", 3, 38);
        Edge.asks(x, 1, 5, "lay", 0, 0, 6);
        holds(x, 0, 6, -7, 8);
    }

    private static void layRefused() {
        for (Scene scene : SCENES) {
            Edge.says(3, "BAD;");
            for (int r : NO_ROWS) {
                Edge.bad(scene, "lay", r, 0, 1);
                Edge.bad(scene, "lay", r, -1, 1);
            }
            Edge.says(3, "NOTHING;");
            Edge.finds(scene, Due.NOTHING, "lay", 2, 0, 1);
            Edge.finds(scene, Due.NOTHING, "lay", 2, -1, 1);
            Edge.finds(scene, Due.NOTHING, "lay", 2, 40, 1);
            Edge.says(3, "BEYOND.");
            for (int i : new int[] {-1, 3, Edge.LEAST, Edge.GREATEST}) {
                Edge.finds(scene, Due.BEYOND, "lay", 0, i, 1);
            }
            Edge.finds(scene, Due.BEYOND, "lay", 1, 0, 1);
            Edge.finds(scene, Due.BEYOND, "lay", 3, 40, 1);
        }
    }

    private static void at() {
        Edge.says(4, "Place i of a ROW, told by asked(): 1.");
        Edge.asks(Scene.LIT.make(), 1, 5, "at", 0, 0);
        Edge.asks(Scene.LIT.make(), 1, 8, "at", 0, 2);
        Edge.asks(Scene.LIT.make(), 1, 3, "at", 3, 39);
        for (Scene scene : SCENES) {
            Edge.aside(scene, 1, "at", 3, 39);
            Edge.says(4, "BAD;");
            for (int r : NO_ROWS) {
                Edge.bad(scene, "at", r, 0);
                Edge.bad(scene, "at", r, 40);
            }
            Edge.says(4, "NOTHING;");
            Edge.finds(scene, Due.NOTHING, "at", 2, 0);
            Edge.finds(scene, Due.NOTHING, "at", 2, -1);
            Edge.finds(scene, Due.NOTHING, "at", 2, 40);
            Edge.says(4, "BEYOND.");
            for (int i : new int[] {-1, 3, Edge.LEAST, Edge.GREATEST}) {
                Edge.finds(scene, Due.BEYOND, "at", 0, i);
            }
            Edge.finds(scene, Due.BEYOND, "at", 1, 0);
            Edge.finds(scene, Due.BEYOND, "at", 3, 40);
        }
    }

    private static void tear() {
        Edge.says(5, "A ROW is missing: 1.");
        for (int r : new int[] {0, 1, 3, 4, 5}) {
            TouchedLamps x = Scene.LIT.make();
            Edge.answers(x, 1, "tear", r);
            Edge.answers(x, 4, "count", 8);
            Edge.answers(x, Due.FINDING, "at", r, 0);
            Edge.answers(x, Due.NOTHING, "finding");
            Edge.answers(x, Due.FINDING, "tear", r);
        }
        for (Scene scene : SCENES) {
            Edge.says(5, "BAD;");
            for (int r : NO_ROWS) {
                Edge.bad(scene, "tear", r);
            }
            Edge.says(5, "NOTHING.");
            Edge.finds(scene, Due.NOTHING, "tear", 2);
        }
    }

    private static void copy() {
        Edge.says(6, "n places of a ROW, from one on, come to those of another one (perhaps itself) from one on, "
            + "as if taken ahead: 1.");
        TouchedLamps x = Scene.BARE.make();
        Due.lay(x, 2, 1, 2, 3, 4, 5);
        Edge.answers(x, 1, "copy", 2, 0, 2, 1, 4);
        holds(x, 2, 1, 1, 2, 3, 4);
        Edge.answers(x, 1, "copy", 2, 2, 2, 0, 3);
        holds(x, 2, 2, 3, 4, 3, 4);
        Edge.answers(x, 1, "copy", 2, 0, 2, 0, 5);
        holds(x, 2, 2, 3, 4, 3, 4);
        Edge.answers(x, 1, "copy", 0, 1, 2, 3, 2);
        holds(x, 2, 2, 3, 4, -7, 8);
        holds(x, 0, 5, -7, 8);
        Edge.answers(x, 1, "copy", 0, 0, 3, 37, 3);
        Edge.asks(x, 1, 8, "at", 3, 39);
        Edge.answers(x, 1, "copy", 3, 0, 3, 0, 40);
        for (Scene scene : SCENES) {
            Edge.aside(scene, 1, "copy", 1, 0, 1, 0, 0);
            Edge.aside(scene, 1, "copy", 0, 0, 1, 0, 0);
            Edge.aside(scene, 1, "copy", 0, 3, 3, 40, 0);
        }
    }

    private static void copyRefused() {
        Edge.says(6, "BAD;");
        for (int r : NO_ROWS) {
            Edge.bad(Scene.LIT, "copy", r, 0, 0, 0, 1);
            Edge.bad(Scene.LIT, "copy", 0, 0, r, 0, 1);
            Edge.bad(Scene.LIT, "copy", r, 0, r, 0, 0);
        }
        Edge.says(6, "SIZE: n below 0;");
        for (Scene scene : SCENES) {
            Edge.finds(scene, Due.SIZE, "copy", 0, 0, 4, 0, -1);
            Edge.finds(scene, Due.SIZE, "copy", 0, 2, 4, 2, -1);
            Edge.finds(scene, Due.SIZE, "copy", 0, 0, 4, 0, Edge.LEAST);
        }
        Edge.answers(Scene.LIT.make(), 1, "copy", 0, 0, 4, 0, 0);
        Edge.says(6, "NOTHING: either;");
        for (Scene scene : SCENES) {
            Edge.finds(scene, Due.NOTHING, "copy", 2, 0, 0, 0, 1);
            Edge.finds(scene, Due.NOTHING, "copy", 0, 0, 2, 0, 1);
            Edge.finds(scene, Due.NOTHING, "copy", 2, 0, 2, 0, 0);
        }
    }

    private static void copyBeyond() {
        Edge.says(6, "BEYOND: not so many there.");
        int[][] beyond = { // of ROW 0 (three ints) and ROW 4 (four): from, to, many
            {0, 0, 4}, {1, 0, 3}, {2, 0, 2}, {3, 0, 1}, {4, 0, 0}, {0, 2, 3}, {0, 3, 2}, {0, 4, 1}, {0, 5, 0},
            {-1, 0, 1}, {0, -1, 1}, {-1, 0, 0}, {0, -1, 0}, {-1, -1, 1}, {0, 0, Edge.GREATEST},
            {Edge.GREATEST, 0, 1}, {0, Edge.GREATEST, 1}, {Edge.GREATEST, Edge.GREATEST, Edge.GREATEST},
            {Edge.LEAST, 0, 1}, {0, Edge.LEAST, 1}, {Edge.LEAST, Edge.LEAST, Edge.GREATEST}, {2, 1, Edge.GREATEST}};
        for (int[] b : beyond) {
            Edge.finds(Scene.LIT, Due.BEYOND, "copy", 0, b[0], 4, b[1], b[2]);
        }
        for (int[] g : new int[][] {{0, 0, 3}, {0, 1, 3}, {1, 2, 2}, {2, 3, 1}, {3, 4, 0}, {0, 4, 0}}) {
            Edge.answers(Scene.LIT.make(), 1, "copy", 0, g[0], 4, g[1], g[2]);
        }
        Edge.finds(Scene.LIT, Due.BEYOND, "copy", 1, 0, 0, 0, 1);
        Edge.finds(Scene.LIT, Due.BEYOND, "copy", 0, 0, 1, 0, 1);
        Edge.finds(Scene.LIT, Due.BEYOND, "copy", 3, 0, 3, 1, 40);
        Edge.finds(Scene.LIT, Due.BEYOND, "copy", 3, 1, 3, 0, 40);
    }

    private static void copyOrder() {
        Edge.says(6, "BAD; SIZE: n below 0; NOTHING: either; BEYOND: not so many there.");
        Edge.bad(Scene.LIT, "copy", 6, -1, 2, -1, -1);
        Edge.bad(Scene.LIT, "copy", 2, -1, 6, -1, -1);
        Edge.bad(Scene.LIT, "copy", 6, 99, 2, 99, 9);
        Edge.finds(Scene.LIT, Due.SIZE, "copy", 2, 0, 2, 0, -1);
        Edge.finds(Scene.LIT, Due.SIZE, "copy", 0, 99, 4, -1, -1);
        Edge.finds(Scene.LIT, Due.SIZE, "copy", 2, 99, 4, -1, -1);
        Edge.finds(Scene.LIT, Due.NOTHING, "copy", 0, 99, 2, 0, 1);
        Edge.finds(Scene.LIT, Due.NOTHING, "copy", 2, 0, 0, 99, 1);
    }

    private static void mean() {
        Edge.says(7, "The mean of a ROW's ints, cut, told by asked(): 1.");
        meanIs(0, 0);
        meanIs(-3, -3);
        meanIs(1, 1, 2);
        meanIs(1, 2, 1, 2, 2);
        meanIs(-1, -1, -2);
        meanIs(0, 1, -2);
        meanIs(0, -1, 0, 0);
        meanIs(0, 2, 0, 0);
        meanIs(Edge.GREATEST, Edge.GREATEST, Edge.GREATEST, Edge.GREATEST);
        meanIs(Edge.LEAST, Edge.LEAST, Edge.LEAST, Edge.LEAST);
        meanIs(0, Edge.LEAST, Edge.GREATEST);
        int[] forty = new int[40];
        java.util.Arrays.fill(forty, Edge.LEAST);
        meanIs(Edge.LEAST, forty);
        java.util.Arrays.fill(forty, Edge.GREATEST);
        meanIs(Edge.GREATEST, forty);
        forty[0] = Edge.GREATEST - 1;
        meanIs(Edge.GREATEST - 1, forty);
    }

    private static void meanIs(int want, int... values) {
        TouchedLamps x = Scene.LIT.withRow(2, values).make();
        long upper = x.upper();
        Edge.due("mean() of " + java.util.Arrays.toString(values), x.mean(2), 1);
        Edge.due("mean() of " + java.util.Arrays.toString(values) + ", asked()", x.asked(), want);
        Edge.due("mean() tells nothing by upper()", x.upper(), upper);
    }

    private static void meanRefused() {
        for (Scene scene : SCENES) {
            Edge.says(7, "BAD;");
            for (int r : NO_ROWS) {
                Edge.bad(scene, "mean", r);
            }
            Edge.says(7, "NOTHING;");
            Edge.finds(scene, Due.NOTHING, "mean", 2);
            Edge.says(7, "NOUGHT.");
            Edge.finds(scene, Due.NOUGHT, "mean", 1);
            Edge.aside(scene.withRow(1, 0), 1, "mean", 1);
        }
    }

    private static void text() {
        Edge.says(8, "A TEXT is there with n blanks: n.");
        for (int n : new int[] {0, 1, 59, 60}) {
            TouchedLamps x = Scene.LIT.make();
            Edge.answers(x, n, "text", 3, n);
            for (int i = 0; i < n; i++) {
                Edge.answers(x, 1032, "put", 3, i, 7);
            }
            Edge.answers(x, Due.FINDING, "put", 3, n, 7);
            Edge.answers(x, n, "text", 3, n);
            Edge.answers(x, n, "fault", 3);
        }
        TouchedLamps x = Scene.LIT.make();
        Edge.answers(x, 60, "text", 0, 60);
        Edge.answers(x, 1032, "put", 0, 0, 7);
        Edge.answers(x, 3, "count", 9);
        Edge.answers(x, 9, "count", 0);
    }

    private static void textRefused() {
        Edge.says(8, "BAD: also n above 60;");
        for (Scene scene : SCENES) {
            for (int t : NO_TEXTS) {
                Edge.bad(scene, "text", t, 0);
                Edge.bad(scene, "text", t, 61);
                Edge.bad(scene, "text", t, -1);
            }
            Edge.bad(scene, "text", 0, 61);
            Edge.bad(scene, "text", 3, Edge.GREATEST);
        }
        Edge.answers(Scene.LIT.make(), 60, "text", 0, 60);
        Edge.says(8, "SIZE: below 0.");
        for (Scene scene : SCENES) {
            Edge.finds(scene, Due.SIZE, "text", 0, -1);
            Edge.finds(scene, Due.SIZE, "text", 3, Edge.LEAST);
        }
        Edge.answers(Scene.LIT.make(), 0, "text", 0, 0);
    }

    private static void put() {
        Edge.says(9, "Byte i of a TEXT is v, cut to a byte: what it was, and 1000 more.");
        TouchedLamps x = Scene.BARE.make();
        x.text(3, 60);
        int[][] due = { // v, what put() answers when the next one comes
            {127, 1127}, {128, 872}, {255, 999}, {256, 1000}, {-1, 999}, {-128, 872}, {-129, 1127}, {383, 1127},
            {384, 872}, {Edge.GREATEST, 999}, {Edge.LEAST, 1000}, {0, 1000}, {32, 1032}};
        for (int place : new int[] {0, 59}) {
            long was = 1032;
            for (int[] d : due) {
                Edge.answers(x, was, "put", 3, place, d[0]);
                was = d[1];
            }
        }
        Edge.answers(x, 1032, "put", 3, 58, 0);
        Edge.answers(x, 1108, "put", 0, 0, 0);
        Edge.answers(x, 1048, "put", 0, 18, 0);
    }

    private static void putRefused() {
        for (Scene scene : SCENES) {
            Edge.says(9, "BAD;");
            for (int t : NO_TEXTS) {
                Edge.bad(scene, "put", t, 0, 7);
                Edge.bad(scene, "put", t, -1, 7);
            }
            Edge.says(9, "NOTHING;");
            Edge.finds(scene, Due.NOTHING, "put", 3, 0, 7);
            Edge.finds(scene, Due.NOTHING, "put", 3, -1, 7);
            Edge.finds(scene, Due.NOTHING, "put", 3, 60, 7);
            Edge.says(9, "BEYOND.");
            for (int i : new int[] {-1, 19, Edge.LEAST, Edge.GREATEST}) {
                Edge.finds(scene, Due.BEYOND, "put", 0, i, 7);
            }
            Edge.finds(scene, Due.BEYOND, "put", 2, 0, 7);
        }
        Edge.answers(Scene.BARE.make(), 1048, "put", 0, 18, 7);
    }
}
