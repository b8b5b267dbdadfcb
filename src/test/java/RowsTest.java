/** Promises 1 to 9: a new object, row, lay, at, tear, copy, mean, text, put. */
public final class RowsTest {
    public static void main(String[] args) {
        newObject();
        row();
        layAndAt();
        tear();
        copy();
        mean();
        text();
        put();
        Due.end();
    }

    private static void newObject() {
        TouchedLamps x = new TouchedLamps();
        for (int what = 0; what <= 10; what++) {
            Due.due("count(" + what + ") of a new object", x.count(what), 0);
        }
        Due.due("asked() at first", x.asked(), 0);
        Due.due("upper() at first", x.upper(), 0);
        Due.due("lower() at first", x.lower(), 1);
        Due.due("finding() at first", x.finding(), 0);
        for (int r = 0; r < 6; r++) {
            int it = r;
            Due.finds(x, "at(" + r + ", 0) of a new object", () -> x.at(it, 0), Due.NOTHING);
        }
        for (int t = 0; t < 4; t++) {
            int it = t;
            Due.finds(x, "fault(" + t + ") of a new object", () -> x.fault(it), Due.NOTHING);
        }
    }

    private static void row() {
        TouchedLamps x = new TouchedLamps();
        Due.due("row(0, 40)", x.row(0, 40), 40);
        Due.due("row(5, 0)", x.row(5, 0), 0);
        Due.due("count(8)", x.count(8), 2);
        x.lay(0, 39, 7);
        Due.due("row(0, 40) anew", x.row(0, 40), 40);
        Due.tells(x, "at(0, 39) anew", x.at(0, 39), 1, 0);
        Due.refuses(x, "row(0, 41)", () -> x.row(0, 41), Due.BAD);
        Due.refuses(x, "row(-1, 3)", () -> x.row(-1, 3), Due.BAD);
        Due.refuses(x, "row(6, 3)", () -> x.row(6, 3), Due.BAD);
        Due.refuses(x, "row(6, -3)", () -> x.row(6, -3), Due.BAD);
        Due.finds(x, "row(1, -1)", () -> x.row(1, -1), Due.SIZE);
        Due.finds(x, "row(0, least)", () -> x.row(0, Integer.MIN_VALUE), Due.SIZE);
    }

    private static void layAndAt() {
        TouchedLamps x = new TouchedLamps();
        x.row(2, 3);
        Due.tells(x, "lay(2, 2, 5)", x.lay(2, 2, 5), 1, 0);
        Due.tells(x, "lay(2, 2, least)", x.lay(2, 2, Integer.MIN_VALUE), 1, 5);
        Due.tells(x, "at(2, 2)", x.at(2, 2), 1, Integer.MIN_VALUE);
        Due.tells(x, "at(2, 0)", x.at(2, 0), 1, 0);
        x.lay(2, 1, 44);
        x.at(2, 1);
        Due.finds(x, "lay(2, 3, 1)", () -> x.lay(2, 3, 1), Due.BEYOND);
        Due.finds(x, "lay(2, -1, 1)", () -> x.lay(2, -1, 1), Due.BEYOND);
        Due.finds(x, "at(2, 3)", () -> x.at(2, 3), Due.BEYOND);
        Due.finds(x, "at(2, -1)", () -> x.at(2, -1), Due.BEYOND);
        Due.finds(x, "lay(3, 9, 1)", () -> x.lay(3, 9, 1), Due.NOTHING);
        Due.finds(x, "at(3, 9)", () -> x.at(3, 9), Due.NOTHING);
        Due.refuses(x, "lay(6, 0, 1)", () -> x.lay(6, 0, 1), Due.BAD);
        Due.refuses(x, "at(-1, 0)", () -> x.at(-1, 0), Due.BAD);
    }

    private static void tear() {
        TouchedLamps x = new TouchedLamps();
        x.row(4, 2);
        Due.due("tear(4)", x.tear(4), 1);
        Due.due("count(8) behind tear", x.count(8), 0);
        Due.finds(x, "tear(4) again", () -> x.tear(4), Due.NOTHING);
        Due.refuses(x, "tear(6)", () -> x.tear(6), Due.BAD);
        Due.refuses(x, "tear(-1)", () -> x.tear(-1), Due.BAD);
    }

    private static void copy() {
        TouchedLamps x = new TouchedLamps();
        Due.lay(x, 0, 1, 2, 3, 4, 5);
        Due.lay(x, 1, 9, 9, 9);
        Due.due("copy(0, 1, 1, 0, 3)", x.copy(0, 1, 1, 0, 3), 1);
        holds(x, 1, 2, 3, 4);
        Due.due("copy(0, 0, 0, 1, 4)", x.copy(0, 0, 0, 1, 4), 1);
        holds(x, 0, 1, 1, 2, 3, 4);
        Due.due("copy(0, 1, 0, 0, 4)", x.copy(0, 1, 0, 0, 4), 1);
        holds(x, 0, 1, 2, 3, 4, 4);
        Due.due("copy(0, 5, 1, 3, 0)", x.copy(0, 5, 1, 3, 0), 1);
        Due.finds(x, "copy beyond the one", () -> x.copy(0, 3, 1, 0, 3), Due.BEYOND);
        Due.finds(x, "copy beyond the other", () -> x.copy(0, 0, 1, 1, 3), Due.BEYOND);
        Due.finds(x, "copy from ahead", () -> x.copy(0, -1, 1, 0, 1), Due.BEYOND);
        Due.finds(x, "copy to ahead", () -> x.copy(0, 0, 1, -1, 1), Due.BEYOND);
        Due.finds(x, "copy of none from beyond", () -> x.copy(0, 6, 1, 0, 0), Due.BEYOND);
        Due.finds(x, "copy of most", () -> x.copy(0, 1, 1, 1, Integer.MAX_VALUE), Due.BEYOND);
        Due.finds(x, "copy from far", () -> x.copy(0, Integer.MAX_VALUE, 1, 0, 1), Due.BEYOND);
        Due.finds(x, "copy from a missing one", () -> x.copy(2, 0, 1, 0, 1), Due.NOTHING);
        Due.finds(x, "copy to a missing one", () -> x.copy(0, 9, 2, 0, 1), Due.NOTHING);
        Due.finds(x, "copy of fewer than none", () -> x.copy(2, 0, 3, 0, -1), Due.SIZE);
        Due.refuses(x, "copy from no ROW", () -> x.copy(6, 0, 1, 0, -1), Due.BAD);
        Due.refuses(x, "copy to no ROW", () -> x.copy(2, 0, -1, 0, -1), Due.BAD);
    }

    private static void holds(TouchedLamps x, int r, int... values) {
        for (int i = 0; i < values.length; i++) {
            Due.tells(x, "at(" + r + ", " + i + ")", x.at(r, i), 1, values[i]);
        }
    }

    private static void mean() {
        TouchedLamps x = new TouchedLamps();
        Due.lay(x, 0, 1, 2, 2);
        Due.tells(x, "mean of 1 2 2", x.mean(0), 1, 1);
        Due.lay(x, 0, -1, -2, -2);
        Due.tells(x, "mean of -1 -2 -2", x.mean(0), 1, -1);
        Due.lay(x, 0, Integer.MAX_VALUE, Integer.MAX_VALUE, Integer.MAX_VALUE);
        Due.tells(x, "mean of the greatest", x.mean(0), 1, Integer.MAX_VALUE);
        Due.due("upper() behind mean", x.upper(), 0);
        x.row(1, 0);
        Due.finds(x, "mean of none", () -> x.mean(1), Due.NOUGHT);
        Due.finds(x, "mean of a missing one", () -> x.mean(2), Due.NOTHING);
        Due.refuses(x, "mean(6)", () -> x.mean(6), Due.BAD);
        Due.refuses(x, "mean(-1)", () -> x.mean(-1), Due.BAD);
    }

    private static void text() {
        TouchedLamps x = new TouchedLamps();
        Due.due("text(3, 60)", x.text(3, 60), 60);
        Due.due("text(0, 0)", x.text(0, 0), 0);
        Due.due("count(9)", x.count(9), 2);
        Due.due("put(3, 59, 1)", x.put(3, 59, 1), 1032);
        x.text(3, 60);
        Due.due("put(3, 59, 1) anew", x.put(3, 59, 1), 1032);
        Due.refuses(x, "text(3, 61)", () -> x.text(3, 61), Due.BAD);
        Due.refuses(x, "text(4, 1)", () -> x.text(4, 1), Due.BAD);
        Due.refuses(x, "text(-1, -1)", () -> x.text(-1, -1), Due.BAD);
        Due.finds(x, "text(1, -1)", () -> x.text(1, -1), Due.SIZE);
    }

    private static void put() {
        TouchedLamps x = new TouchedLamps();
        x.text(1, 2);
        Due.due("put(1, 0, 127)", x.put(1, 0, 127), 1032);
        Due.due("put(1, 0, 128)", x.put(1, 0, 128), 1127);
        Due.due("put(1, 0, 511)", x.put(1, 0, 511), 872);
        Due.due("put(1, 0, 256)", x.put(1, 0, 256), 999);
        Due.due("put(1, 0, 0)", x.put(1, 0, 0), 1000);
        Due.finds(x, "put(1, 2, 0)", () -> x.put(1, 2, 0), Due.BEYOND);
        Due.finds(x, "put(1, -1, 0)", () -> x.put(1, -1, 0), Due.BEYOND);
        Due.finds(x, "put(2, 0, 0)", () -> x.put(2, 0, 0), Due.NOTHING);
        Due.refuses(x, "put(4, 0, 0)", () -> x.put(4, 0, 0), Due.BAD);
        Due.refuses(x, "put(-1, 0, 0)", () -> x.put(-1, 0, 0), Due.BAD);
        Due.due("asked() behind put", x.asked(), 0);
    }
}
