/** Promises 10 to 13: fault, wall, lamp, mark. */
public final class WallTest {
    public static void main(String[] args) {
        fault();
        wall();
        lamp();
        mark();
        Due.end();
    }

    private static void faultIs(String text, int due) {
        TouchedLamps x = new TouchedLamps();
        Due.write(x, 2, text);
        Due.due("fault of '" + text + "'", x.fault(2), due);
        Due.due("wall of '" + text + "'", x.wall(2), due == Due.NONE ? 9 : Due.STATE);
        Due.due("count(0) behind '" + text + "'", x.count(0), due == Due.NONE ? 9 : 0);
    }

    private static void fault() {
        faultIs("", 0);
        faultIs("   ", 3);
        faultIs(Due.PLAIN, Due.NONE);
        faultIs(Due.MIXED, Due.NONE);
        faultIs("   l1  t2 w2   k1 h1 f1 l0 l0 l0   ", Due.NONE);
        faultIs("l0l0l0l0l0l0l0l0", 16);
        faultIs("l0l0l0l0l0l0l0l0  ", 18);
        faultIs("l0l0l0l0l0l0l0l0l", 17);
        faultIs("l0l0l0l0l0l0l0l0l ", 17);
        faultIs("l0l0l0l0l0l0l0l0l0l", 18);
        faultIs("l0l0l0l0l0l0l0l0l0  x", 20);
        faultIs("l0l0l0l0l0l0l0l0l0 t2", 19);
        faultIs("l2", 1);
        faultIs("k2", 1);
        faultIs("h2", 1);
        faultIs(" f2", 2);
        faultIs("t3", 1);
        faultIs("w2t2l2", 5);
        faultIs("l/", 1);
        faultIs("ll", 1);
        faultIs("l 0", 1);
        faultIs("0l", 0);
        faultIs("L0", 0);
        faultIs("x0", 0);
        faultIs("l01", 2);
        faultIs("l0\u0080", 2);
        faultIs("l0\t", 2);
        TouchedLamps x = new TouchedLamps();
        Due.finds(x, "fault(0)", () -> x.fault(0), Due.NOTHING);
        Due.refuses(x, "fault(4)", () -> x.fault(4), Due.BAD);
        Due.refuses(x, "fault(-1)", () -> x.fault(-1), Due.BAD);
    }

    private static void wall() {
        TouchedLamps x = Due.walled(Due.MIXED);
        Due.write(x, 1, Due.PLAIN);
        Due.write(x, 2, "l0 nothing of the kind");
        x.press(4);
        x.crack(2);
        x.keep(1);
        Due.refuses(x, "wall of a FAULT", () -> x.wall(2), Due.STATE);
        Due.finds(x, "wall of a missing TEXT", () -> x.wall(3), Due.NOTHING);
        Due.refuses(x, "wall(4)", () -> x.wall(4), Due.BAD);
        Due.refuses(x, "wall(-1)", () -> x.wall(-1), Due.BAD);
        Due.due("fault aside", x.fault(2), 3);
        Due.due("the WALL behind fault", Due.told(x, 1, 0), 1);
        Due.due("wall(1)", x.wall(1), 9);
        for (int what = 1; what <= 7; what++) {
            Due.due("count(" + what + ") of a WALL anew", x.count(what), 0);
        }
        Due.due("count(10) of a WALL anew", x.count(10), 0);
        Due.finds(x, "on(1) of a WALL anew", () -> x.on(1), Due.NOTHING);
        x.put(1, 0, 't');
        Due.due("a LAMP when its TEXT is otherwise", Due.told(x, 0, 0), 0);
    }

    private static void lamp() {
        TouchedLamps x = Due.walled(" t1 k0 h1 w2 f0 f1 l1 w0 t2");
        int[][] due = {
            {1, 1, 1, 0, 11, 2}, {2, 0, 0, 0, 23, 1}, {3, 1, 1, 0, 38, 1},
            {4, 2, 1, 0, 89, 0}, {5, 0, 1, 0, 186, 0}, {5, 1, 0, 0, 308, 1},
            {0, 1, 1, 0, 200, 0}, {4, 0, 0, 0, 464, 1}, {1, 2, 1, 0, 416, 0}};
        for (int i = 0; i < 9; i++) {
            for (int what = 0; what < 6; what++) {
                Due.tells(x, "lamp(" + i + ", " + what + ")", x.lamp(i, what), 1, due[i][what]);
            }
        }
        x.crack(4);
        x.crack(6);
        Due.due("BROKEN, FALSE at 0", Due.told(x, 4, 2), 0);
        Due.due("BROKEN", Due.told(x, 4, 3), 1);
        Due.due("BUTTON of one that is BROKEN", Due.told(x, 4, 4), 186);
        Due.due("own BUTTON of one that is BROKEN", Due.told(x, 6, 5), 0);
        x.press(2);
        Due.due("a SLOW one in PRESS 1", Due.told(x, 3, 5), 2);
        Due.refuses(x, "lamp(9, 0)", () -> x.lamp(9, 0), Due.BAD);
        Due.refuses(x, "lamp(-1, 0)", () -> x.lamp(-1, 0), Due.BAD);
        Due.refuses(x, "lamp(0, 6)", () -> x.lamp(0, 6), Due.BAD);
        Due.refuses(x, "lamp(0, -1)", () -> x.lamp(0, -1), Due.BAD);
        TouchedLamps none = new TouchedLamps();
        Due.refuses(none, "lamp(0, 0) without LAMPS", () -> none.lamp(0, 0), Due.BAD);
    }

    private static void mark() {
        TouchedLamps x = Due.walled("t0t1t2 w0w1w2 k0k1f0");
        for (int i = 0; i < 6; i++) {
            Due.due("mark(" + i + ", 1)", x.mark(i, 1), (3 - i % 3) % 3);
        }
        Due.due("mark(7, 2)", x.mark(7, 2), 1);
        Due.due("mark(8, 3)", x.mark(8, 3), 2);
        Due.due("mark(8, 5)", x.mark(8, 5), 5);
        Due.due("mark(3, 4)", x.mark(3, 4), 0);
        x.crack(6);
        x.crack(1);
        Due.due("mark(7, 2), one BROKEN", x.mark(7, 2), 1);
        Due.due("mark(8, 5), one BROKEN", x.mark(8, 5), 4);
        x.press(0);
        Due.due("mark(3, 4) ahead of PRESS 1", x.mark(3, 4), 1);
        Due.finds(x, "mark(0, 4)", () -> x.mark(0, 4), Due.UNLIKE);
        Due.finds(x, "mark(0, 2)", () -> x.mark(0, 2), Due.UNLIKE);
        Due.finds(x, "mark(6, 3)", () -> x.mark(6, 3), Due.UNLIKE);
        Due.finds(x, "mark(8, 1)", () -> x.mark(8, 1), Due.UNLIKE);
        Due.refuses(x, "mark(0, 0)", () -> x.mark(0, 0), Due.BAD);
        Due.refuses(x, "mark(0, 6)", () -> x.mark(0, 6), Due.BAD);
        Due.refuses(x, "mark(0, -1)", () -> x.mark(0, -1), Due.BAD);
        Due.refuses(x, "mark(9, 1)", () -> x.mark(9, 1), Due.BAD);
        Due.refuses(x, "mark(-1, 1)", () -> x.mark(-1, 1), Due.BAD);
        shyPlaces();
        TouchedLamps stuck = Due.walled("k0k0k1k0 k1 l0 l1 h0 f0");
        Due.due("mark(2, 2), three of five at 0", stuck.mark(2, 2), 3);
        TouchedLamps none = new TouchedLamps();
        Due.refuses(none, "mark(0, 1) without LAMPS", () -> none.mark(0, 1), Due.BAD);
    }

    private static void shyPlaces() {
        TouchedLamps x = Due.walled("h0f0h0f0h0f0h0f0h1");
        int[] due = {2, 3, 2, 3, 4, 3, 2, 3, 2};
        for (int i = 0; i < 9; i++) {
            Due.due("mark(" + i + ", 3)", x.mark(i, 3), due[i]);
        }
        Due.finds(x, "a SHY one is not FALSE", () -> x.mark(0, 5), Due.UNLIKE);
        Due.due("other LAMPS that SHOW", x.mark(1, 5), 4);
    }
}
