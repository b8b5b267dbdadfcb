/** Promises 14 to 19: press, set, crack, undo, keep, on. */
public final class DeedsTest {
    public static void main(String[] args) {
        press();
        set();
        crack();
        undo();
        keepAndOn();
        full();
        Due.end();
    }

    private static void press() {
        TouchedLamps x = new TouchedLamps();
        Due.refuses(x, "press(0) without LAMPS", () -> x.press(0), Due.STATE);
        Due.refuses(x, "press(9) without LAMPS", () -> x.press(9), Due.STATE);
        Due.write(x, 0, Due.PLAIN);
        x.wall(0);
        int[] touched = {11, 23, 38, 89, 186, 308, 200, 464, 416};
        int shown = 0;
        for (int i = 0; i < 9; i++) {
            shown ^= touched[i];
            Due.due("press(" + i + ")", x.press(i), shown);
            Due.due("count(1)", x.count(1), i + 1);
            Due.due("count(2)", x.count(2), i + 1);
        }
        Due.refuses(x, "press(9)", () -> x.press(9), Due.BAD);
        Due.refuses(x, "press(-1)", () -> x.press(-1), Due.BAD);
        pressKinds();
    }

    private static void pressKinds() {
        TouchedLamps x = Due.walled("t0t0t0 k0w0h0 f0f0f0");
        Due.due("press(4), PRESS 0", x.press(4), 2 + 8 + 16 + 32 + 64 + 256);
        Due.due("press(4), PRESS 1", x.press(4), 2 + 8 + 16 + 64 + 128 + 256);
        Due.due("the SLOW one stays in PRESS 1", Due.told(x, 4, 1), 1);
        Due.due("press(4), PRESS 2", x.press(4), 8 + 16 + 32 + 64 + 256);
        Due.due("the SLOW one goes on in PRESS 2", Due.told(x, 4, 1), 2);
        Due.due("press(7), PRESS 3", x.press(7), 8 + 16 + 32);
        Due.due("press(5), PRESS 4: SHY and SLOW", x.press(5), 4 + 8 + 32 + 256);
        x.crack(5);
        Due.due("press(5) that is BROKEN, PRESS 5", x.press(5), 4 + 8);
    }

    private static void set() {
        TouchedLamps x = Due.walled(Due.MIXED);
        Due.due("set(1, 0)", x.set(1, 0), 2);
        Due.due("set(1, 2)", x.set(1, 2), 0);
        Due.due("set(4, 2)", x.set(4, 2), 1);
        Due.due("set(2, 1)", x.set(2, 1), 0);
        Due.due("set(2, 0) of a STUCK one", x.set(2, 0), 1);
        Due.due("count(1) behind set", x.count(1), 0);
        Due.due("count(2) behind set", x.count(2), 5);
        x.crack(0);
        Due.due("set(0, 1) of one that is BROKEN", x.set(0, 1), 0);
        Due.refuses(x, "set(0, 1) again", () -> x.set(0, 1), Due.STATE);
        for (int i : new int[] {0, 2, 3, 5}) {
            Due.refuses(x, "set(" + i + ", 2)", () -> x.set(i, 2), Due.BAD);
        }
        Due.refuses(x, "set(1, 3)", () -> x.set(1, 3), Due.BAD);
        Due.refuses(x, "set(1, -1)", () -> x.set(1, -1), Due.BAD);
        Due.refuses(x, "set(9, 0)", () -> x.set(9, 0), Due.BAD);
        Due.refuses(x, "set(-1, 0)", () -> x.set(-1, 0), Due.BAD);
        TouchedLamps none = new TouchedLamps();
        Due.refuses(none, "set(0, 0) without LAMPS", () -> none.set(0, 0), Due.BAD);
    }

    private static void crack() {
        TouchedLamps x = Due.walled(Due.MIXED);
        Due.due("crack(5)", x.crack(5), 1);
        Due.due("count(4)", x.count(4), 32);
        Due.due("crack(0)", x.crack(0), 1);
        Due.due("count(4)", x.count(4), 33);
        Due.due("crack(5) again", x.crack(5), 0);
        Due.due("count(4)", x.count(4), 1);
        Due.due("count(1) behind crack", x.count(1), 0);
        Due.due("count(2) behind crack", x.count(2), 3);
        Due.refuses(x, "crack(9)", () -> x.crack(9), Due.BAD);
        Due.refuses(x, "crack(-1)", () -> x.crack(-1), Due.BAD);
        TouchedLamps none = new TouchedLamps();
        Due.refuses(none, "crack(0) without LAMPS", () -> none.crack(0), Due.BAD);
    }

    private static void undo() {
        TouchedLamps x = Due.walled(Due.MIXED);
        long[] digests = new long[5];
        digests[0] = x.digest();
        x.press(3);
        digests[1] = x.digest();
        x.set(1, 1);
        digests[2] = x.digest();
        x.crack(4);
        digests[3] = x.digest();
        x.press(4);
        digests[4] = x.digest();
        Due.refuses(x, "undo(5)", () -> x.undo(5), Due.BAD);
        Due.refuses(x, "undo(-1)", () -> x.undo(-1), Due.BAD);
        Due.refuses(x, "undo(least)", () -> x.undo(Integer.MIN_VALUE), Due.BAD);
        Due.due("undo(4): none", x.undo(4), 0);
        for (int n = 3; n >= 0; n--) {
            Due.due("undo(" + n + ")", x.undo(n), 1);
            Due.due("digest() behind undo(" + n + ")", x.digest(), digests[n]);
        }
        x.press(3);
        Due.due("digest() of the same DEED again", x.digest(), digests[1]);
        x.set(1, 1);
        x.crack(4);
        x.press(4);
        Due.due("digest() of the same DEEDS again", x.digest(), digests[4]);
        Due.due("undo(1)", x.undo(1), 3);
        Due.due("count(1) behind undo(1)", x.count(1), 1);
    }

    private static void keepAndOn() {
        TouchedLamps x = new TouchedLamps();
        Due.refuses(x, "keep(0) without LAMPS", () -> x.keep(0), Due.STATE);
        Due.refuses(x, "keep(3) without LAMPS", () -> x.keep(3), Due.BAD);
        Due.finds(x, "on(0) without LAMPS", () -> x.on(0), Due.NOTHING);
        Due.write(x, 0, Due.MIXED);
        x.wall(0);
        Due.due("keep(2)", x.keep(2), 0);
        Due.due("count(10)", x.count(10), 1);
        x.press(1);
        x.crack(6);
        Due.due("keep(0)", x.keep(0), 2);
        Due.due("count(10)", x.count(10), 2);
        long kept = x.digest();
        x.undo(0);
        x.press(8);
        x.press(8);
        x.set(1, 0);
        Due.due("on(0)", x.on(0), 2);
        Due.due("digest() behind on(0)", x.digest(), kept);
        Due.due("undo(0) behind on(0)", x.undo(0), 2);
        Due.due("on(0) again", x.on(0), 2);
        Due.due("on(2)", x.on(2), 0);
        Due.due("count(2) behind on(2)", x.count(2), 0);
        x.crack(1);
        Due.due("keep(2) over another", x.keep(2), 1);
        Due.due("count(10)", x.count(10), 2);
        Due.finds(x, "on(1)", () -> x.on(1), Due.NOTHING);
        Due.refuses(x, "on(3)", () -> x.on(3), Due.BAD);
        Due.refuses(x, "on(-1)", () -> x.on(-1), Due.BAD);
        Due.refuses(x, "keep(3)", () -> x.keep(3), Due.BAD);
        Due.refuses(x, "keep(-1)", () -> x.keep(-1), Due.BAD);
    }

    private static void full() {
        TouchedLamps x = Due.walled(Due.PLAIN);
        for (int i = 0; i < 40; i++) {
            Due.due("DEED " + i, x.crack(0), (i + 1) % 2);
        }
        Due.refuses(x, "press(0) behind 40", () -> x.press(0), Due.FULL);
        Due.refuses(x, "press(9) behind 40", () -> x.press(9), Due.BAD);
        Due.refuses(x, "set(0, 1) behind 40", () -> x.set(0, 1), Due.FULL);
        Due.refuses(x, "set(0, 0) behind 40", () -> x.set(0, 0), Due.STATE);
        Due.refuses(x, "set(0, 2) behind 40", () -> x.set(0, 2), Due.BAD);
        Due.refuses(x, "crack(0) behind 40", () -> x.crack(0), Due.FULL);
        Due.refuses(x, "crack(9) behind 40", () -> x.crack(9), Due.BAD);
        Due.due("keep(0) behind 40", x.keep(0), 40);
        long kept = x.digest();
        Due.due("undo(39)", x.undo(39), 1);
        Due.due("press(0) behind 39", x.press(0), 2 + 8);
        x.undo(39);
        Due.due("set(8, 1) behind 39", x.set(8, 1), 0);
        Due.due("on(0)", x.on(0), 40);
        Due.due("digest() behind on(0)", x.digest(), kept);
        Due.due("undo(0)", x.undo(0), 40);
    }
}
