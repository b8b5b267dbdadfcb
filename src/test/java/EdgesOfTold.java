/** The edges of promises 34 to 40: asked, upper, lower, count, finding, findings, digest. */
final class EdgesOfTold {
    private static final Scene PLAIN = Scene.of(Due.PLAIN);

    private EdgesOfTold() {
    }

    static void run() {
        asked();
        askedStays();
        upper();
        lower();
        partsStay();
        count();
        countMost();
        countRefused();
        finding();
        findings();
        digest();
        digestOfNothing();
    }

    private static void asked() {
        Edge.says(34, "What the latest lay(), at(), mean(), lamp(), most(), ways(), sure(), next(), sums(), duel() "
            + "that was not refused (nor NONE) told;");
        TouchedLamps x = PLAIN.withRow(0, 6, 70).withRow(1).make();
        Edge.asks(x, 1, 6, "lay", 0, 0, 8);
        Edge.asks(x, 1, 70, "at", 0, 1);
        Edge.asks(x, 1, 39, "mean", 0);
        Edge.asks(x, 1, 11, "lamp", 0, 4);
        Edge.asks(x, 4, 5, "most");
        Edge.asks(x, 1, 341, "ways", 511);
        Edge.asks(x, 341, 170, "sure", 511);
        Edge.asks(x, 0, 5, "next", 0, 1);
        Edge.asks(x, 1, Due.NONE, "sums", 18);
        Edge.asks(x, 1, 0, "duel", 511, 1);
        Edge.says(34, "0 before.");
        Edge.answers(Scene.FRESH.make(), 0, "asked");
        TouchedLamps y = Scene.of(Due.MIXED).make();
        y.row(0, 40);
        y.press(4);
        y.fewest(0, 1);
        y.odds(0, 0, 6);
        y.at(0, 40);
        Edge.answers(y, 0, "asked");
    }

    /** LIT tells -7 by asked(), which no call tells that does not tell by it. */
    private static void askedStays() {
        Edge.says(34, "that was not refused (nor NONE) told;");
        Edge.answers(Scene.LIT.make(), -7, "asked");
        String[] names = {"row", "tear", "copy", "text", "put", "fault", "fault", "wall", "mark", "press", "set",
            "crack", "undo", "keep", "on", "touched", "shows", "fewest", "fewest", "which", "kinds", "lots",
            "count", "finding", "findings", "upper", "lower"};
        int[][] args = {{0, 1}, {0}, {0, 0, 3, 0, 3}, {0, 1}, {0, 0, 0}, {0}, {1}, {0}, {1, 1}, {4}, {4, 0},
            {4}, {0}, {0}, {0}, {0, 0, 0, 0}, {1}, {217, 0}, {256, 0}, {217}, {0, 4}, {20, 1},
            {3}, {}, {1}, {}, {}};
        for (int k = 0; k < names.length; k++) {
            Edge.tellsNothing(Scene.LIT, true, names[k], args[k]);
        }
        Edge.tellsNothing(Scene.LIT, false, "odds", 0, 217, 3);
        Edge.tellsNothing(Scene.LIT, false, "mid", 0, 3);
        Edge.refused(Scene.LIT.withRow(0, 0, 0, 0, 1), Due.NONE, "next", 0, 0);
        Edge.finds(Scene.LIT, Due.BEYOND, "lay", 0, 3, 1);
        Edge.finds(Scene.LIT, Due.BEYOND, "at", 0, 3);
        Edge.finds(Scene.LIT, Due.NOUGHT, "mean", 1);
        Edge.bad(Scene.LIT, "lamp", 9, 0);
        Edge.state(Scene.BARE, "most");
        Edge.bad(Scene.LIT, "ways", 512);
        Edge.finds(Scene.LIT, Due.NOUGHT, "sure", 256);
        Edge.finds(Scene.LIT, Due.SIZE, "next", 0, 5);
        Edge.bad(Scene.LIT, "sums", 19);
        Edge.bad(Scene.LIT, "duel", 0, 3);
    }

    private static void upper() {
        Edge.says(35, "The upper number that was told last;");
        TouchedLamps x = PLAIN.make();
        x.mid(0, 7);
        Edge.answers(x, 5, "upper");
        x.odds(0, 11, 6);
        Edge.answers(x, 1, "upper");
        x.sums(0);
        Edge.answers(x, 512, "upper");
        x.ways(511);
        Edge.answers(x, 1, "upper");
        x.sums(18);
        Edge.answers(x, 0, "upper");
        x.odds(4, 186, 1);
        Edge.answers(x, 161051, "upper");
        Edge.says(35, "0 before.");
        Edge.answers(Scene.FRESH.make(), 0, "upper");
        Edge.answers(Scene.BARE.make(), 0, "upper");
    }

    private static void lower() {
        Edge.says(36, "Its lower number;");
        TouchedLamps x = PLAIN.make();
        x.mid(0, 7);
        Edge.answers(x, 4, "lower");
        x.odds(0, 11, 6);
        Edge.answers(x, 8, "lower");
        x.sums(0);
        Edge.answers(x, 1, "lower");
        x.odds(4, 186, 1);
        Edge.answers(x, 248832, "lower");
        x.ways(511);
        Edge.answers(x, 1, "lower");
        x.mid(4, 1);
        Edge.answers(x, 12, "lower");
        x.odds(4, 511, 1);
        Edge.answers(x, 1, "lower");
        Edge.says(36, "1 before.");
        Edge.answers(Scene.FRESH.make(), 1, "lower");
        Edge.answers(Scene.BARE.make(), 1, "lower");
    }

    private static void partsStay() {
        Edge.says(35, "The upper number that was told last;");
        String[] names = {"lay", "at", "mean", "lamp", "most", "sure", "next", "duel"};
        int[][] args = {{0, 0, 0}, {0, 0}, {0}, {0, 0}, {}, {217}, {0, 1}, {0, 1}};
        for (int k = 0; k < names.length; k++) {
            TouchedLamps x = Scene.LIT.make();
            long upper = x.upper();
            long lower = x.lower();
            Edge.due(names[k] + " is granted", Edge.call(x, names[k], args[k]) >= 0 ? 1 : 0, 1);
            Edge.answers(x, upper, "upper");
            Edge.answers(x, lower, "lower");
        }
        Edge.bad(Scene.LIT, "odds", 0, 512, 3);
        Edge.bad(Scene.LIT, "mid", 0, 13);
        Edge.bad(Scene.LIT, "ways", 512);
        Edge.bad(Scene.LIT, "sums", 19);
    }

    private static void counts(TouchedLamps x, int... due) {
        for (int what = 0; what < due.length; what++) {
            Edge.answers(x, due[what], "count", what);
        }
    }

    private static void count() {
        Edge.says(37, "0 LAMPS, 1 the number of the next PRESS, 2 DEEDS, 3 LAMPS that SHOW (bits), 4 BROKEN ones (bits), "
            + "5 all STEPS together, 6 THREES (SLOW ones, too), 7 SHY ones (FALSE, too), 8 ROWS, 9 TEXTS that are there, "
            + "10 kept WALLS.");
        counts(Scene.FRESH.make(), 0, 0, 0, 0, 0, 0, 0, 0, 0, 0, 0);
        counts(Scene.BARE.make(), 0, 0, 0, 0, 0, 0, 0, 0, 5, 3, 0);
        counts(Scene.LIT.make(), 9, 2, 4, 217, 256, 7, 3, 2, 5, 3, 2);
        counts(Scene.FULL.make(), 9, 2, 40, 217, 256, 7, 3, 2, 5, 3, 2);
        for (int what = 0; what <= 10; what++) {
            Edge.aside(Scene.LIT, Scene.LIT.make().count(what), "count", what);
        }
    }

    private static void countMost() {
        Edge.says(37, "1 the number of the next PRESS, 2 DEEDS, 3 LAMPS that SHOW (bits), 4 BROKEN ones (bits), "
            + "5 all STEPS together, 6 THREES (SLOW ones, too), 7 SHY ones (FALSE, too), 8 ROWS, 9 TEXTS that are there, "
            + "10 kept WALLS.");
        TouchedLamps pressed = Scene.of("k1k1k1k1k1k1k1k1k1").make();
        for (int number = 1; number <= 40; number++) {
            pressed.press(0);
            Edge.answers(pressed, number, "count", 1);
        }
        counts(pressed, 9, 40, 40, 511, 0, 9, 0, 0, 0, 1, 0);
        TouchedLamps twos = Scene.of("t2w2t2w2t2w2t2w2t2").make();
        for (int i = 0; i < 9; i++) {
            twos.crack(i);
        }
        counts(twos, 9, 0, 9, 0, 511, 18, 9, 0, 0, 1, 0);
        TouchedLamps shy = Scene.of("h1f0h1f0h1f0h1f0h1").make();
        for (int r = 0; r < 6; r++) {
            shy.row(r, 0);
        }
        for (int t = 0; t < 4; t++) {
            shy.text(t, 0);
        }
        for (int k = 0; k < 3; k++) {
            shy.keep(k);
        }
        counts(shy, 9, 0, 0, 511, 0, 5, 0, 9, 6, 4, 3);
    }

    private static void countRefused() {
        Edge.says(37, "BAD.");
        for (int what : new int[] {-1, 11, Edge.LEAST, Edge.GREATEST}) {
            for (Scene scene : new Scene[] {Scene.FRESH, Scene.BARE, Scene.LIT, Scene.FULL}) {
                Edge.bad(scene, "count", what);
            }
        }
    }

    private static void finding() {
        Edge.says(38, "The latest FINDING (0 before any).");
        Edge.answers(Scene.FRESH.make(), 0, "finding");
        TouchedLamps x = Scene.of(Due.PLAIN).make();
        x.press(9);
        x.wall(9);
        x.keep(9);
        x.sums(19);
        x.set(0, 0);
        Edge.answers(x, 0, "finding");
        x.at(0, 0);
        Edge.answers(x, 1, "finding");
        x.put(0, 60, 0);
        Edge.answers(x, 2, "finding");
        x.mark(0, 1);
        Edge.answers(x, 3, "finding");
        x.row(0, 0);
        x.mean(0);
        Edge.answers(x, 4, "finding");
        x.row(0, -1);
        Edge.answers(x, 5, "finding");
        x.press(9);
        x.press(0);
        x.wall(0);
        x.findings(1);
        x.fewest(511, 0);
        Edge.answers(x, 5, "finding");
        x.on(0);
        Edge.answers(x, 1, "finding");
    }

    private static void findings() {
        Edge.says(39, "How often a FINDING (1 .. 5) was answered.");
        for (int f = 1; f <= 5; f++) {
            Edge.answers(Scene.FRESH.make(), 0, "findings", f);
            Edge.answers(Scene.BARE.make(), new int[] {0, 2, 1, 0, 1, 2}[f], "findings", f);
            Edge.answers(Scene.LIT.make(), new int[] {0, 2, 1, 1, 1, 2}[f], "findings", f);
        }
        TouchedLamps x = new TouchedLamps();
        for (int many = 1; many <= 200; many++) {
            x.tear(0);
            Edge.answers(x, many, "findings", 1);
        }
        Edge.answers(x, 0, "findings", 2);
        Edge.says(39, "BAD.");
        for (int f : new int[] {0, 6, -1, Edge.LEAST, Edge.GREATEST}) {
            for (Scene scene : new Scene[] {Scene.FRESH, Scene.LIT, Scene.FULL}) {
                Edge.bad(scene, "findings", f);
            }
        }
    }

    private static void digest() {
        Edge.says(40, "h = 17; then h = 31 h + v for each v: count() 0 to 10; of each LAMP lamp() 0 to 5; "
            + "of each kept WALL how many DEEDS (-1: missing); of each ROW its size (-1: missing) and places, "
            + "of each TEXT likewise.");
        for (Scene scene : new Scene[] {Scene.FRESH, Scene.BARE, Scene.LIT, Scene.FULL, PLAIN}) {
            Edge.answers(scene.make(), digestBy(scene.make()), "digest");
            TouchedLamps x = scene.make();
            x.digest();
            Edge.sameElse("digest() changes nothing", x, scene.make());
        }
        Scene more = () -> {
            TouchedLamps x = Scene.FULL.make();
            Due.lay(x, 2, Edge.LEAST, Edge.GREATEST, -1);
            x.text(3, 2);
            x.put(3, 0, 128);
            x.put(3, 1, 255);
            x.keep(1);
            return x;
        };
        Edge.answers(more.make(), digestBy(more.make()), "digest");
    }

    private static void digestOfNothing() {
        Edge.says(40, "(-1: missing)");
        long h = 17;
        for (int zero = 0; zero < 11; zero++) {
            h *= 31;
        }
        for (int missing = 0; missing < 3 + 6 + 4; missing++) {
            h = 31 * h - 1;
        }
        Edge.answers(Scene.FRESH.make(), h, "digest");
        TouchedLamps x = new TouchedLamps();
        x.row(5, 0);
        Edge.due("digest() of an empty ROW is not that of a missing one", x.digest() == h ? 1 : 0, 0);
        x.tear(5);
        Edge.answers(x, h, "digest");
    }

    /** By what the calls tell; what there is of ROWS and TEXTS by FINDINGS. It changes the object. */
    private static long digestBy(TouchedLamps x) {
        long h = 17;
        for (int what = 0; what <= 10; what++) {
            h = 31 * h + x.count(what);
        }
        for (int told = 0; told < 54 && x.count(0) == 9; told++) {
            x.lamp(told / 6, told % 6);
            h = 31 * h + x.asked();
        }
        for (int k = 0; k < 3; k++) {
            int deeds = x.on(k);
            h = 31 * h + (deeds == Due.FINDING ? -1 : deeds);
        }
        for (int r = 0; r < 6; r++) {
            h = mixed(h, x, "at", r, 60);
        }
        for (int t = 0; t < 4; t++) {
            h = mixed(h, x, "put", t, 60);
        }
        return h;
    }

    private static long mixed(long h, TouchedLamps x, String name, int which, int most) {
        int[] values = new int[most];
        for (int i = 0; i <= most; i++) {
            long answer = name.equals("at") ? x.at(which, i) : x.put(which, i, 0);
            if (answer == Due.FINDING) {
                return x.finding() == Due.NOTHING ? 31 * h - 1 : mixed(h, values, i);
            }
            values[i] = name.equals("at") ? x.asked() : (int) answer - 1000;
        }
        return h;
    }

    private static long mixed(long h, int[] values, int size) {
        long all = 31 * h + size;
        for (int i = 0; i < size; i++) {
            all = 31 * all + values[i];
        }
        return all;
    }
}
