/** Promises 26 to 30: which, kinds, next, sums, duel. */
public final class WhichTest {
    public static void main(String[] args) {
        which();
        kinds();
        next();
        pairsRefused();
        sums();
        duel();
        Due.end();
    }

    private static void which() {
        TouchedLamps x = Due.walled("k1k1k1k1k1k1k1k1l0");
        Due.due("which(255)", x.which(255), 1 + 2 + 4 + 8 + 16 + 64);
        Due.due("which(511)", x.which(511), 32 + 128 + 256);
        Due.due("which(0)", x.which(0), 0);
        Due.due("asked() behind which", x.asked(), 0);
        Due.refuses(x, "which(512)", () -> x.which(512), Due.BAD);
        Due.refuses(x, "which(-1)", () -> x.which(-1), Due.BAD);
        TouchedLamps none = new TouchedLamps();
        Due.refuses(none, "which(512) without LAMPS", () -> none.which(512), Due.STATE);
    }

    private static void kinds() {
        TouchedLamps x = Due.walled("l0l1t2l0l0l0l0l0l0");
        x.row(0, 0);
        Due.due("kinds(0) by none", x.kinds(0, 0), 63);
        Due.due("kinds(2) by none, at 2", x.kinds(2, 0), 2 + 16);
        Due.lay(x, 0, 0, 0);
        Due.due("kinds(0): own, dark", x.kinds(0, 0), 8);
        Due.lay(x, 0, 0, 1);
        Due.due("kinds(0): own, lit", x.kinds(0, 0), 1 + 2 + 4 + 16 + 32);
        Due.lay(x, 0, 1, 0);
        Due.due("kinds(0): next to it, dark", x.kinds(0, 0), 32);
        Due.lay(x, 0, 8, 1);
        Due.due("kinds(0): far off, lit", x.kinds(0, 0), 32);
        Due.lay(x, 0, 1, 1);
        Due.due("kinds(1): own, lit, at 1", x.kinds(1, 0), 2 + 4 + 8 + 16);
        Due.lay(x, 0, 1, 0, 0, 1, 4, 1);
        Due.due("kinds(1): own, others, at 1", x.kinds(1, 0), 32);
        Due.lay(x, 0, 0, 1, 0, 0);
        Due.due("kinds(0): not both", x.kinds(0, 0), 0);
        x.press(8);
        Due.lay(x, 0, 0, 0, 1, 0);
        Due.due("kinds(0) in PRESS 1: SLOW", x.kinds(0, 0), 16);
        x.crack(0);
        x.row(0, 16);
        Due.due("kinds(0) that is BROKEN", x.kinds(0, 0), 63);
        Due.lay(x, 0, 0, 1);
        Due.due("kinds(0) that is BROKEN, lit", x.kinds(0, 0), 0);
        Due.due("kinds aside", x.lamp(0, 0), 1);
        Due.due("kinds aside", x.asked(), 0);
    }

    private static void next() {
        TouchedLamps x = Due.walled(Due.PLAIN);
        x.row(0, 0);
        Due.tells(x, "next(0) by none", x.next(0, 0), 0, 5);
        Due.tells(x, "next(8) by none", x.next(8, 0), 0, 5);
        x.set(8, 1);
        Due.tells(x, "next(8) by none, at 1", x.next(8, 0), 5, 4);
        Due.lay(x, 0, 8, 0);
        Due.tells(x, "next(8) by own, dark, at 1", x.next(8, 0), 0, 1);
        x.at(0, 0);
        Due.lay(x, 0, 8, 0, 8, 1);
        x.at(0, 0);
        Due.refuses(x, "next(8), no KIND", () -> x.next(8, 0), Due.NONE);
    }

    private static void pairsRefused() {
        TouchedLamps x = Due.walled(Due.PLAIN);
        TouchedLamps none = new TouchedLamps();
        none.row(0, 0);
        Due.refuses(none, "kinds(0, 0) without LAMPS", () -> none.kinds(0, 0), Due.BAD);
        Due.refuses(none, "next(0, 0) without LAMPS", () -> none.next(0, 0), Due.BAD);
        refusedByBoth(x, 9, 0, Due.BAD);
        refusedByBoth(x, -1, 0, Due.BAD);
        refusedByBoth(x, 0, 6, Due.BAD);
        refusedByBoth(x, 0, -1, Due.BAD);
        foundByBoth(x, 0, 1, Due.NOTHING);
        x.row(0, 17);
        foundByBoth(x, 0, 0, Due.SIZE);
        x.row(0, 18);
        foundByBoth(x, 0, 0, Due.SIZE);
        Due.lay(x, 0, 9);
        foundByBoth(x, 0, 0, Due.SIZE);
        Due.lay(x, 0, 0, 1, 9, 1);
        foundByBoth(x, 0, 0, Due.UNLIKE);
        Due.lay(x, 0, -1, 1);
        foundByBoth(x, 0, 0, Due.UNLIKE);
        Due.lay(x, 0, 0, 2);
        foundByBoth(x, 0, 0, Due.UNLIKE);
        Due.lay(x, 0, 0, 0, 0, 1, 0, -1);
        foundByBoth(x, 0, 0, Due.UNLIKE);
    }

    private static void refusedByBoth(TouchedLamps x, int i, int r, int refusal) {
        Due.refuses(x, "kinds(" + i + ", " + r + ")", () -> x.kinds(i, r), refusal);
        Due.refuses(x, "next(" + i + ", " + r + ")", () -> x.next(i, r), refusal);
    }

    private static void foundByBoth(TouchedLamps x, int i, int r, int finding) {
        Due.finds(x, "kinds(" + i + ", " + r + ")", () -> x.kinds(i, r), finding);
        Due.finds(x, "next(" + i + ", " + r + ")", () -> x.next(i, r), finding);
    }

    private static void sums() {
        TouchedLamps x = Due.walled("t2t2t2t2t2t2t2t2t2");
        Due.tellsParts(x, "sums(18)", x.sums(18), 1, 1);
        Due.due("sums(18): asked()", x.asked(), 511);
        Due.tellsParts(x, "sums(4)", x.sums(4), 36, 1);
        Due.due("sums(4): asked()", x.asked(), 3);
        Due.tellsParts(x, "sums(5)", x.sums(5), 0, 1);
        Due.due("sums(5): asked()", x.asked(), Due.NONE);
        x.crack(0);
        Due.tellsParts(x, "sums(0), one BROKEN", x.sums(0), 1, 1);
        Due.due("sums(0): asked()", x.asked(), 0);
        Due.refuses(x, "sums(19)", () -> x.sums(19), Due.BAD);
        Due.refuses(x, "sums(-1)", () -> x.sums(-1), Due.BAD);
        TouchedLamps none = new TouchedLamps();
        Due.refuses(none, "sums(19) without LAMPS", () -> none.sums(19), Due.STATE);
    }

    private static void duel() {
        TouchedLamps x = Due.walled(Due.MIXED);
        Due.tells(x, "duel(2, 0)", x.duel(2, 0), 1, 1 - 4);
        Due.tells(x, "duel(511, 0)", x.duel(511, 0), 1, 5);
        Due.tells(x, "duel(0, 0)", x.duel(0, 0), 1, -5);
        TouchedLamps stuck = Due.walled("k0k0k0k0k0k0k0k0k0");
        Due.tells(stuck, "duel(511, 1), STUCK", stuck.duel(511, 1), 1, 5);
        Due.tells(stuck, "duel(0, 1), STUCK: the first PRESSES none", stuck.duel(0, 1), 1, -5);
        Due.tells(stuck, "duel(511, 2), STUCK", stuck.duel(511, 2), 1, 7);
        TouchedLamps plain = Due.walled(Due.PLAIN);
        Due.tells(plain, "duel(511, 1): the second has the last word", plain.duel(511, 1), 1, 0);
        Due.tells(plain, "duel(16, 2)", plain.duel(16, 2), 1, -3);
        TouchedLamps slow = Due.walled("w2w2w2w2w2w2w2w2w2");
        Due.tells(slow, "duel(0, 1): PRESS 1 moves no SLOW one", slow.duel(0, 1), 1, -4);
        Due.refuses(x, "duel(512, 0)", () -> x.duel(512, 0), Due.BAD);
        Due.refuses(x, "duel(-1, 0)", () -> x.duel(-1, 0), Due.BAD);
        Due.refuses(x, "duel(0, 3)", () -> x.duel(0, 3), Due.BAD);
        Due.refuses(x, "duel(0, -1)", () -> x.duel(0, -1), Due.BAD);
        TouchedLamps none = new TouchedLamps();
        Due.refuses(none, "duel(512, 3) without LAMPS", () -> none.duel(512, 3), Due.STATE);
    }
}
