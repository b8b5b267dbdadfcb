/** The edges of promises 31 to 33: odds, mid, lots. */
final class EdgesOfChances {
    private static final int[] NO_LAMPS = {-1, 9, Edge.LEAST, Edge.GREATEST};
    private static final int[] NO_PARTS = {-1, 13, Edge.LEAST, Edge.GREATEST};
    private static final int[] NO_PICTURES = {-1, 512, Edge.LEAST, Edge.GREATEST};
    private static final Scene[] WITHOUT_LAMPS = {Scene.FRESH, Scene.BARE};
    private static final Scene PLAIN = Scene.of(Due.PLAIN);

    private EdgesOfChances() {
    }

    static void run() {
        odds();
        oddsOfKinds();
        oddsRefused();
        mid();
        midRefused();
        lots();
        lotsByWhat();
        lotsToTheNextStep();
        lotsInAnyCase();
        lotsRefused();
        lotsFull();
    }

    private static void odds() {
        Edge.says(31, "Chances that a picture SHOWS behind it: 1.");
        TouchedLamps x = PLAIN.make();
        Edge.parts(x, 1, 1, "odds", 8, 416, 0);
        Edge.parts(x, 0, 1, "odds", 8, 0, 0);
        Edge.parts(x, 1, 1, "odds", 8, 0, 12);
        Edge.parts(x, 0, 1, "odds", 8, 416, 12);
        Edge.parts(x, 161051, 248832, "odds", 4, 186, 1);
        Edge.parts(x, 1, 248832, "odds", 4, 186, 11);
        Edge.parts(x, 1, 32, "odds", 4, 16, 6);
        Edge.parts(x, 0, 1, "odds", 4, 511, 6);
        Edge.parts(x, 0, 1, "odds", 4, 1, 6);
        Edge.aside(Scene.LIT, 1, "odds", 8, 511, 12);
        Edge.aside(Scene.FULL, 1, "odds", 0, 0, 0);
    }

    private static void oddsOfKinds() {
        Edge.says(31, "Chances that a picture SHOWS behind it: 1.");
        TouchedLamps stuck = Scene.of("k1k1k1k1k1k1k1k1k1").make();
        Edge.parts(stuck, 1, 1, "odds", 4, 511, 5);
        Edge.parts(stuck, 0, 1, "odds", 4, 510, 5);
        TouchedLamps three = Scene.of("t1t2l0l0l0l0l0l0l0").make();
        Edge.parts(three, 49, 144, "odds", 0, 1 + 8, 5);
        Edge.parts(three, 25, 144, "odds", 0, 1 + 2, 5);
        TouchedLamps shy = Scene.of("h0f0l0l0l0l0l0l0l0").make();
        Edge.parts(shy, 49, 144, "odds", 0, 8, 5);
        Edge.parts(shy, 0, 1, "odds", 0, 1 + 8, 5);
        TouchedLamps slow = Scene.of("w0l0l0l0l0l0l0l0l0").make();
        Edge.parts(slow, 343, 1728, "odds", 0, 11, 5);
        slow.press(8);
        Edge.parts(slow, 0, 1, "odds", 0, 11 + 416, 5);
        Edge.parts(slow, 49, 144, "odds", 0, 10 + 416, 5);
        slow.crack(1);
        Edge.parts(slow, 7, 12, "odds", 0, 8 + 416, 5);
    }

    private static void oddsRefused() {
        Edge.says(31, "STATE: no LAMPS; BAD. (In this order.)");
        for (int i : NO_LAMPS) {
            badButNotNow("odds", i, 0, 0);
        }
        for (int picture : NO_PICTURES) {
            badButNotNow("odds", 0, picture, 0);
        }
        for (int p : NO_PARTS) {
            badButNotNow("odds", 8, 511, p);
        }
        badButNotNow("odds", 9, 512, 13);
        for (Scene none : WITHOUT_LAMPS) {
            Edge.state(none, "odds", 0, 0, 0);
            Edge.state(none, "odds", 8, 511, 12);
        }
    }

    /** BAD with LAMPS, STATE ahead of that without. */
    private static void badButNotNow(String name, int... args) {
        Edge.bad(Scene.LIT, name, args);
        Edge.bad(Scene.FULL, name, args);
        for (Scene none : WITHOUT_LAMPS) {
            Edge.state(none, name, args);
        }
    }

    private static void mid() {
        Edge.says(32, "The mean of how many LAMPS SHOW behind it: 1.");
        TouchedLamps x = PLAIN.make();
        Edge.parts(x, 5, 1, "mid", 4, 0);
        Edge.parts(x, 0, 1, "mid", 4, 12);
        Edge.parts(x, 55, 12, "mid", 4, 1);
        Edge.parts(x, 5, 12, "mid", 4, 11);
        Edge.parts(x, 3, 2, "mid", 8, 6);
        TouchedLamps all = Scene.of("l1l1l1l1l1l1l1l1l1").make();
        Edge.parts(all, 4, 1, "mid", 4, 0);
        Edge.parts(all, 9, 1, "mid", 4, 12);
        Edge.parts(all, 53, 12, "mid", 4, 1);
        TouchedLamps stuck = Scene.of("k1k1k1k1k1k1k1k1k1").make();
        Edge.parts(stuck, 9, 1, "mid", 4, 7);
        TouchedLamps odd = Scene.of("f0h0l0l0l0l0l0l0w2").make();
        Edge.parts(odd, 19, 6, "mid", 0, 5);
    }

    private static void midRefused() {
        Edge.says(32, "STATE: no LAMPS; BAD. (In this order.)");
        for (int i : NO_LAMPS) {
            badButNotNow("mid", i, 0);
        }
        for (int p : NO_PARTS) {
            badButNotNow("mid", 8, p);
        }
        badButNotNow("mid", 9, 13);
        for (Scene none : WITHOUT_LAMPS) {
            Edge.state(none, "mid", 0, 0);
            Edge.state(none, "mid", 8, 12);
        }
    }

    /** The least seed whose first number means this LAMP, by this. */
    private static int seedOf(int lamp, int by) {
        for (int seed = 1; seed < 100_000; seed++) {
            long number = seed * 48271L % 2147483647L;
            if (number % 9 == lamp && number / 16 % 8 == by) {
                return seed;
            }
        }
        return 0;
    }

    private static void lots() {
        Edge.says(33, "n (1 .. 20) DEEDS truly by LOTS of a seed: for each a number;");
        for (int n : new int[] {1, 2, 19, 20}) {
            for (int seed : new int[] {1, 2, 77, 2147483645, 2147483646}) {
                TouchedLamps x = Scene.LIT.make();
                TouchedLamps by = Scene.LIT.make();
                long number = seed;
                for (int deed = 0; deed < n; deed++) {
                    number = number * 48271L % 2147483647L;
                    deedBy(by, (int) (number % 9), (int) (number / 16 % 8));
                }
                Edge.answers(x, by.count(3), "lots", n, seed);
                Edge.answers(x, 4 + n, "count", 2);
                Edge.sameElse(Edge.told("lots", n, seed) + " is as its DEEDS one by one", x, by);
            }
        }
    }

    private static void deedBy(TouchedLamps x, int lamp, int by) {
        if (by <= 5) {
            x.press(lamp);
        } else if (by == 7) {
            x.crack(lamp);
        } else {
            x.lamp(lamp, 0);
            int steps = x.asked() == 1 || x.asked() == 4 ? 3 : 2;
            x.lamp(lamp, 1);
            x.set(lamp, (x.asked() + 1) % steps);
        }
    }

    private static void lotsByWhat() {
        Edge.says(33, "the LAMP is it modulo 9; by what it by 16, cut, modulo 8 is: 0 to 5 its BUTTON is PRESSED, "
            + "6 it is set to the next STEP that it has (from the last one to 0), 7 it is BROKEN, or mended "
            + "(a DEED in any case): LAMPS (bits) that SHOW then.");
        for (int lamp = 0; lamp < 9; lamp++) {
            for (int by = 0; by < 8; by++) {
                int seed = seedOf(lamp, by);
                TouchedLamps x = Scene.LIT.make();
                TouchedLamps twin = Scene.LIT.make();
                deedBy(twin, lamp, by);
                Edge.answers(x, twin.count(3), "lots", 1, seed);
                Edge.answers(x, by <= 5 ? 3 : 2, "count", 1);
                Edge.answers(x, 5, "count", 2);
                Edge.sameElse("LAMP " + lamp + " by " + by, x, twin);
            }
        }
    }

    private static void lotsToTheNextStep() {
        Edge.says(33, "6 it is set to the next STEP that it has (from the last one to 0),");
        String[] items = {"l0", "l1", "t0", "t1", "t2", "k0", "k1", "h0", "h1", "w0", "w1", "w2", "f0", "f1"};
        int[] steps = {1, 0, 1, 2, 0, 1, 0, 1, 0, 1, 2, 0, 1, 0};
        for (int k = 0; k < items.length; k++) {
            for (int lamp : new int[] {0, 8}) {
                String others = "l0l0l0l0l0l0l0l0";
                TouchedLamps x = Scene.of(lamp == 0 ? items[k] + others : others + items[k]).make();
                x.lots(1, seedOf(lamp, 6));
                Edge.asks(x, 1, steps[k], "lamp", lamp, 1);
                Edge.answers(x, 0, "count", 1);
                Edge.answers(x, 1, "undo", 0);
                Edge.asks(x, 1, items[k].charAt(1) - '0', "lamp", lamp, 1);
            }
        }
    }

    private static void lotsInAnyCase() {
        Edge.says(33, "7 it is BROKEN, or mended (a DEED in any case):");
        TouchedLamps x = Scene.LIT.make();
        Edge.answers(x, 217, "lots", 1, seedOf(8, 7));
        Edge.asks(x, 1, 0, "lamp", 8, 3);
        Edge.answers(x, 217, "lots", 1, seedOf(8, 7));
        Edge.asks(x, 1, 1, "lamp", 8, 3);
        Edge.answers(x, 217, "lots", 1, seedOf(8, 6));
        Edge.asks(x, 1, 1, "lamp", 8, 1);
        Edge.asks(x, 1, 1, "lamp", 8, 3);
        TouchedLamps still = Scene.of("k1k1k1k1k1k1k1k1k1").make();
        Edge.answers(still, 511, "lots", 1, seedOf(4, 0));
        Edge.answers(still, 1, "count", 2);
        Edge.answers(still, 1, "count", 1);
    }

    private static void lotsRefused() {
        Edge.says(33, "STATE: no LAMPS; BAD;");
        for (int n : new int[] {0, -1, 21, Edge.LEAST, Edge.GREATEST}) {
            badButNotNow("lots", n, 1);
            badButNotNow("lots", n, 0);
        }
        for (int seed : new int[] {0, -1, 2147483647, Edge.LEAST}) {
            badButNotNow("lots", 1, seed);
            badButNotNow("lots", 20, seed);
        }
        for (Scene none : WITHOUT_LAMPS) {
            Edge.state(none, "lots", 1, 1);
            Edge.state(none, "lots", 20, 2147483646);
        }
    }

    private static void lotsFull() {
        Edge.says(33, "FULL: with n more there would be more than 40 DEEDS. (In this order.)");
        Scene twenty = Scene.LIT.withDeeds(16);
        TouchedLamps x = twenty.make();
        Edge.due("lots(20, 1) behind 20 DEEDS", x.lots(20, 1) >= 0 ? 1 : 0, 1);
        Edge.answers(x, 40, "count", 2);
        Edge.full(Scene.LIT.withDeeds(17), "lots", 20, 1);
        Edge.due("lots(19, 1) behind 21 DEEDS", Scene.LIT.withDeeds(17).make().lots(19, 1) >= 0 ? 1 : 0, 1);
        Edge.full(Scene.LIT.withDeeds(35), "lots", 2, 1);
        Edge.due("lots(1, 1) behind 39 DEEDS", Scene.LIT.withDeeds(35).make().lots(1, 1) >= 0 ? 1 : 0, 1);
        Edge.full(Scene.FULL, "lots", 1, 1);
        Edge.full(Scene.FULL, "lots", 20, 2147483646);
        Edge.bad(Scene.FULL, "lots", 0, 1);
        Edge.bad(Scene.FULL, "lots", 21, 1);
        Edge.bad(Scene.FULL, "lots", 1, 0);
        Edge.bad(Scene.FULL, "lots", 20, 2147483647);
    }
}
