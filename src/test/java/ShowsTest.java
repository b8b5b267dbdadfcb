/** Promises 20 to 25: touched, shows, most, fewest, ways, sure. */
public final class ShowsTest {
    public static void main(String[] args) {
        touched();
        shows();
        most();
        fewest();
        waysAndSure();
        Due.end();
    }

    private static void touched() {
        TouchedLamps x = Due.walled(Due.MIXED);
        int[][] due = { // LAMP, STEP, own, number, STEP then
            {0, 0, 1, 0, 1}, {0, 1, 0, 999, 0}, {1, 0, 1, 1, 1}, {1, 1, 0, 1, 2}, {1, 2, 1, 1, 0},
            {2, 0, 0, 1, 1}, {2, 1, 1, 0, 1}, {3, 0, 1, 0, 0}, {3, 0, 0, 1, 1}, {3, 1, 0, 1, 0},
            {4, 0, 1, 0, 1}, {4, 1, 0, 998, 2}, {4, 2, 0, 2, 0}, {4, 1, 1, 999, 1},
            {5, 0, 1, 0, 0}, {5, 0, 0, 0, 1}, {5, 1, 0, 0, 0}, {5, 1, 1, 0, 1}};
        for (int[] d : due) {
            Due.due("touched(" + d[0] + ", " + d[1] + ", " + d[2] + ", " + d[3] + ")",
                x.touched(d[0], d[1], d[2], d[3]), d[4]);
        }
        x.crack(0);
        Due.due("touched() of one that is BROKEN", x.touched(0, 0, 1, 0), 1);
        int[][] bad = {{0, 2, 0, 0}, {1, 3, 0, 0}, {1, -1, 0, 0}, {0, 0, 2, 0}, {0, 0, -1, 0},
            {0, 0, 0, 1000}, {0, 0, 0, -1}, {9, 0, 0, 0}, {-1, 0, 0, 0}};
        for (int[] b : bad) {
            Due.refuses(x, "touched() that is BAD", () -> x.touched(b[0], b[1], b[2], b[3]), Due.BAD);
        }
        TouchedLamps none = new TouchedLamps();
        Due.refuses(none, "touched() without LAMPS", () -> none.touched(0, 0, 0, 0), Due.BAD);
    }

    private static void shows() {
        TouchedLamps x = new TouchedLamps();
        Due.refuses(x, "shows(6) without LAMPS", () -> x.shows(6), Due.STATE);
        Due.write(x, 0, Due.MIXED);
        x.wall(0);
        x.press(2);
        int[] buttons = {4, 4, 3, 1, 8, 0, 5, 7, 4, 4, 2, 6, 4, 1, 1, 3, 5, 5, 0, 8};
        Due.lay(x, 3, buttons);
        long digest = x.digest();
        int shown = x.shows(3);
        Due.due("digest() behind shows", x.digest(), digest);
        int last = 0;
        for (int button : buttons) {
            last = x.press(button);
        }
        Due.due("shows() of 20", shown, last);
        x.row(3, 0);
        Due.due("shows() of none", x.shows(3), last);
        x.row(3, 21);
        x.lay(3, 0, 9);
        Due.finds(x, "shows() of 21", () -> x.shows(3), Due.SIZE);
        Due.lay(x, 3, 0, 9);
        Due.finds(x, "shows() of a BUTTON 9", () -> x.shows(3), Due.UNLIKE);
        Due.lay(x, 3, -1);
        Due.finds(x, "shows() of a BUTTON -1", () -> x.shows(3), Due.UNLIKE);
        Due.finds(x, "shows() of a missing ROW", () -> x.shows(1), Due.NOTHING);
        Due.refuses(x, "shows(6)", () -> x.shows(6), Due.BAD);
        Due.refuses(x, "shows(-1)", () -> x.shows(-1), Due.BAD);
    }

    private static void most() {
        TouchedLamps x = Due.walled(Due.PLAIN);
        Due.tells(x, "most()", x.most(), 4, 5);
        Due.due("most() aside", x.count(2), 0);
        TouchedLamps stuck = Due.walled("k1k1k1k1k1k1k1k1k1");
        Due.tells(stuck, "most() of STUCK ones", stuck.most(), 0, 9);
        TouchedLamps none = new TouchedLamps();
        Due.refuses(none, "most() without LAMPS", none::most, Due.STATE);
    }

    private static void fewest() {
        TouchedLamps x = new TouchedLamps();
        Due.refuses(x, "fewest(512, 0) without LAMPS", () -> x.fewest(512, 0), Due.STATE);
        Due.write(x, 0, Due.PLAIN);
        x.wall(0);
        Due.lay(x, 5, 7, 7, 7, 7, 7, 7);
        Due.due("fewest of 11 ^ 308 ^ 464", x.fewest(11 ^ 308 ^ 464, 5), 3);
        rowIs(x, 5, 0, 5, 7);
        Due.due("fewest of 0", x.fewest(0, 5), 0);
        rowIs(x, 5);
        Due.due("fewest to a missing ROW", x.fewest(186 ^ 11 ^ 416 ^ 38, 1), 4);
        rowIs(x, 1, 0, 2, 4, 8);
        Due.due("fewest to no avail", x.fewest(511, 1), Due.NONE);
        rowIs(x, 1, 0, 2, 4, 8);
        Due.due("fewest aside", x.count(2), 0);
        TouchedLamps slow = Due.walled("w0w0w0w0w0w0w0w0w0");
        Due.due("fewest of SLOW ones", slow.fewest(11 | 186, 1), 3);
        rowIs(slow, 1, 0, 0, 4);
        slow.press(0);
        Due.due("fewest of SLOW ones ahead of PRESS 1", slow.fewest(11 | 186, 1), 2);
        rowIs(slow, 1, 0, 4);
        Due.refuses(x, "fewest(512, 0)", () -> x.fewest(512, 0), Due.BAD);
        Due.refuses(x, "fewest(-1, 0)", () -> x.fewest(-1, 0), Due.BAD);
        Due.refuses(x, "fewest(0, 6)", () -> x.fewest(0, 6), Due.BAD);
        Due.refuses(x, "fewest(511, -1)", () -> x.fewest(511, -1), Due.BAD);
    }

    private static void rowIs(TouchedLamps x, int r, int... values) {
        for (int i = 0; i < values.length; i++) {
            Due.tells(x, "at(" + r + ", " + i + ")", x.at(r, i), 1, values[i]);
        }
        Due.finds(x, "at(" + r + ") beyond", () -> x.at(r, values.length), Due.BEYOND);
    }

    private static void waysAndSure() {
        TouchedLamps x = Due.walled("k1k1k1k1k1k1k1k1k1");
        Due.tellsParts(x, "ways(511), all STUCK", x.ways(511), 512, 1);
        Due.due("ways(511): asked()", x.asked(), 0);
        Due.tells(x, "sure(511), all STUCK", x.sure(511), 0, 0);
        Due.tellsParts(x, "ways(510), all STUCK", x.ways(510), 0, 1);
        Due.due("ways(510): asked()", x.asked(), Due.NONE);
        Due.finds(x, "sure(510), all STUCK", () -> x.sure(510), Due.NOUGHT);
        TouchedLamps y = Due.walled("k0k1k1k1k1k1k1k1k1");
        Due.tellsParts(y, "ways(510), one to come", y.ways(510), 64, 1);
        Due.due("ways(510): asked()", y.asked(), 0);
        Due.tells(y, "sure(510)", y.sure(510), 0, 1 + 2 + 8);
        Due.tellsParts(y, "ways(511), one to come", y.ways(511), 448, 1);
        Due.due("ways(511): asked()", y.asked(), 1);
        Due.tells(y, "sure(511)", y.sure(511), 0, 0);
        TouchedLamps slow = Due.walled("w0w0w0w0w0w0w0w0w0");
        Due.tellsParts(slow, "ways(11) of SLOW ones: 0 alone, or with one other", slow.ways(11), 9, 1);
        Due.due("ways(11): asked()", slow.asked(), 1);
        Due.tells(slow, "sure(11)", slow.sure(11), 1, 0);
        for (TouchedLamps z : new TouchedLamps[] {x, y}) {
            Due.refuses(z, "ways(512)", () -> z.ways(512), Due.BAD);
            Due.refuses(z, "ways(-1)", () -> z.ways(-1), Due.BAD);
            Due.refuses(z, "sure(512)", () -> z.sure(512), Due.BAD);
            Due.refuses(z, "sure(-1)", () -> z.sure(-1), Due.BAD);
        }
        TouchedLamps none = new TouchedLamps();
        Due.refuses(none, "ways(512) without LAMPS", () -> none.ways(512), Due.STATE);
        Due.refuses(none, "sure(512) without LAMPS", () -> none.sure(512), Due.STATE);
    }
}
