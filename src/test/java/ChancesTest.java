/** Promises 31 to 33: odds, mid, lots. */
public final class ChancesTest {
    public static void main(String[] args) {
        odds();
        mid();
        lots();
        Due.end();
    }

    private static void odds() {
        TouchedLamps x = Due.walled(Due.PLAIN);
        Due.tellsParts(x, "odds(0, 11, 0)", x.odds(0, 11, 0), 1, 1);
        Due.tellsParts(x, "odds(0, 11, 12)", x.odds(0, 11, 12), 0, 1);
        Due.tellsParts(x, "odds(0, 0, 12)", x.odds(0, 0, 12), 1, 1);
        Due.tellsParts(x, "odds(0, 11, 6)", x.odds(0, 11, 6), 1, 8);
        Due.tellsParts(x, "odds(0, 9, 4)", x.odds(0, 9, 4), 4, 27);
        Due.tellsParts(x, "odds(4, 186, 1)", x.odds(4, 186, 1), 161051, 248832);
        Due.tellsParts(x, "odds(4, 0, 5)", x.odds(4, 0, 5), 3125, 248832);
        Due.tellsParts(x, "odds(0, 27, 4): one that is not touched", x.odds(0, 27, 4), 0, 1);
        x.crack(1);
        Due.tellsParts(x, "odds(0, 9, 6), one BROKEN", x.odds(0, 9, 6), 1, 4);
        TouchedLamps y = Due.walled("t1h1w1l0l0l0l0l0l0");
        Due.tellsParts(y, "odds(1, 7, 3): a THREE SHOWS in any case", y.odds(1, 7, 3), 1, 4);
        Due.due("odds aside", y.count(2), 0);
        for (int[] b : new int[][] {{9, 0, 0}, {-1, 0, 0}, {0, 512, 0}, {0, -1, 0}, {0, 0, 13}, {0, 0, -1}}) {
            Due.refuses(y, "odds() that is BAD", () -> y.odds(b[0], b[1], b[2]), Due.BAD);
        }
        TouchedLamps none = new TouchedLamps();
        Due.refuses(none, "odds() without LAMPS", () -> none.odds(9, 512, 13), Due.STATE);
    }

    private static void mid() {
        TouchedLamps x = Due.walled(Due.PLAIN);
        Due.tellsParts(x, "mid(4, 0)", x.mid(4, 0), 5, 1);
        Due.tellsParts(x, "mid(4, 12)", x.mid(4, 12), 0, 1);
        Due.tellsParts(x, "mid(4, 1)", x.mid(4, 1), 55, 12);
        Due.tellsParts(x, "mid(0, 4)", x.mid(0, 4), 2, 1);
        TouchedLamps y = Due.walled("k0f0t2l1l1l1l1l1l1");
        Due.tellsParts(y, "mid(1, 3)", y.mid(1, 3), 29, 4);
        y.crack(1);
        Due.tellsParts(y, "mid(1, 3), one BROKEN", y.mid(1, 3), 25, 4);
        for (int[] b : new int[][] {{9, 0}, {-1, 0}, {0, 13}, {0, -1}}) {
            Due.refuses(y, "mid() that is BAD", () -> y.mid(b[0], b[1]), Due.BAD);
        }
        TouchedLamps none = new TouchedLamps();
        Due.refuses(none, "mid() without LAMPS", () -> none.mid(9, 13), Due.STATE);
    }

    private static void lots() {
        TouchedLamps x = Due.walled(Due.MIXED);
        TouchedLamps by = Due.walled(Due.MIXED);
        long lot = 12345;
        int last = 0;
        for (int i = 0; i < 20; i++) {
            lot = lot * 48271 % 2147483647;
            deedByLot(by, (int) (lot % 9), (int) (lot / 16 % 8));
            last = by.count(3);
        }
        Due.due("lots(20, 12345)", x.lots(20, 12345), last);
        Due.due("digest() behind lots", x.digest(), by.digest());
        Due.due("DEEDS behind lots", x.count(2), 20);
        Due.due("lots(20, greatest)", x.lots(20, 2147483646) >= 0 ? 1 : 0, 1);
        Due.refuses(x, "lots(1, 1) behind 40", () -> x.lots(1, 1), Due.FULL);
        Due.refuses(x, "lots(0, 1) behind 40", () -> x.lots(0, 1), Due.BAD);
        Due.due("undo(25)", x.undo(25), 15);
        Due.refuses(x, "lots(16, 1) behind 25", () -> x.lots(16, 1), Due.FULL);
        Due.due("lots(15, 1) behind 25", x.lots(15, 1) >= 0 ? 1 : 0, 1);
        x.undo(0);
        for (int[] b : new int[][] {{0, 1}, {-1, 1}, {21, 1}, {1, 0}, {1, -1}, {1, Integer.MAX_VALUE}}) {
            Due.refuses(x, "lots() that is BAD", () -> x.lots(b[0], b[1]), Due.BAD);
        }
        TouchedLamps none = new TouchedLamps();
        Due.refuses(none, "lots() without LAMPS", () -> none.lots(0, 0), Due.STATE);
    }

    private static void deedByLot(TouchedLamps x, int i, int by) {
        if (by == 7) {
            x.crack(i);
        } else if (by == 6) {
            int kind = Due.told(x, i, 0);
            int step = Due.told(x, i, 1) + 1;
            x.set(i, step > (kind == 1 || kind == 4 ? 2 : 1) ? 0 : step);
        } else {
            x.press(i);
        }
    }
}
