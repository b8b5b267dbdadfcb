/** Promises 34 to 40: asked, upper, lower, count, finding, findings, digest; and the constants. */
public final class ToldTest {
    public static void main(String[] args) {
        constants();
        asked();
        upperAndLower();
        count();
        findings();
        digest();
        Due.end();
    }

    private static void constants() {
        Due.due("BAD", TouchedLamps.BAD, -1);
        Due.due("FULL", TouchedLamps.FULL, -2);
        Due.due("FINDING", TouchedLamps.FINDING, -3);
        Due.due("STATE", TouchedLamps.STATE, -4);
        Due.due("SPENT", TouchedLamps.SPENT, -6);
        Due.due("NONE", TouchedLamps.NONE, -9);
    }

    private static void asked() {
        TouchedLamps x = Due.walled(Due.PLAIN);
        x.row(0, 1);
        x.lay(0, 0, 77);
        x.at(0, 0);
        Due.due("asked() behind at", x.asked(), 77);
        x.row(1, 2);
        x.text(1, 3);
        x.put(1, 0, 5);
        x.fault(0);
        x.copy(0, 0, 1, 0, 1);
        x.mark(0, 1);
        x.press(0);
        x.set(8, 1);
        x.crack(7);
        x.undo(2);
        x.keep(0);
        x.on(0);
        x.touched(0, 0, 0, 0);
        x.fewest(3, 2);
        x.which(3);
        x.row(1, 0);
        x.shows(1);
        x.kinds(0, 1);
        x.odds(0, 3, 3);
        x.mid(0, 3);
        x.lots(3, 3);
        x.count(3);
        x.tear(1);
        x.at(1, 0);
        x.wall(3);
        Due.due("asked() behind calls that tell it nothing", x.asked(), 77);
    }

    private static void upperAndLower() {
        TouchedLamps x = Due.walled(Due.PLAIN);
        x.mid(0, 7);
        Due.due("upper() behind mid", x.upper(), 5);
        Due.due("lower() behind mid", x.lower(), 4);
        x.row(0, 2);
        x.mean(0);
        x.most();
        x.sure(0);
        x.duel(3, 1);
        x.odds(0, 512, 1);
        x.mid(0, 13);
        x.ways(512);
        x.sums(19);
        Due.due("upper() behind calls that tell it nothing", x.upper(), 5);
        Due.due("lower() behind calls that tell it nothing", x.lower(), 4);
        x.sums(0);
        Due.due("upper() behind sums", x.upper(), 512);
        Due.due("lower() behind sums", x.lower(), 1);
    }

    private static void count() {
        TouchedLamps x = Due.walled("t2w1f0h1k1l0f1t0l1");
        x.press(8);
        x.crack(0);
        x.keep(2);
        x.row(4, 0);
        int[] due = {9, 1, 2, 2 + 4 + 8 + 16 + 32 + 128, 1, 8, 3, 3, 1, 1, 1};
        for (int what = 0; what <= 10; what++) {
            Due.due("count(" + what + ")", x.count(what), due[what]);
        }
        Due.refuses(x, "count(11)", () -> x.count(11), Due.BAD);
        Due.refuses(x, "count(-1)", () -> x.count(-1), Due.BAD);
    }

    private static void findings() {
        TouchedLamps x = Due.walled(Due.PLAIN);
        for (int f = 1; f <= 5; f++) {
            Due.due("findings(" + f + ") at first", x.findings(f), 0);
        }
        x.at(0, 0);
        Due.due("finding() behind NOTHING", x.finding(), 1);
        x.put(0, 60, 0);
        Due.due("finding() behind BEYOND", x.finding(), 2);
        x.mark(0, 1);
        Due.due("finding() behind UNLIKE", x.finding(), 3);
        x.row(0, 0);
        x.mean(0);
        Due.due("finding() behind NOUGHT", x.finding(), 4);
        x.row(0, -1);
        Due.due("finding() behind SIZE", x.finding(), 5);
        x.at(1, 0);
        x.press(9);
        Due.due("finding() stays", x.finding(), 1);
        int[] due = {2, 1, 1, 1, 1};
        for (int f = 1; f <= 5; f++) {
            Due.due("findings(" + f + ")", x.findings(f), due[f - 1]);
        }
        Due.refuses(x, "findings(0)", () -> x.findings(0), Due.BAD);
        Due.refuses(x, "findings(6)", () -> x.findings(6), Due.BAD);
        Due.refuses(x, "findings(-1)", () -> x.findings(-1), Due.BAD);
    }

    private static void digest() {
        TouchedLamps x = new TouchedLamps();
        long h = 17;
        for (int what = 0; what <= 10; what++) {
            h = 31 * h;
        }
        for (int missing = 0; missing < 3 + 6 + 4; missing++) {
            h = 31 * h - 1;
        }
        Due.due("digest() of a new object", x.digest(), h);
        Due.write(x, 0, Due.MIXED);
        x.wall(0);
        x.press(4);
        x.keep(1);
        x.text(2, 1);
        x.put(2, 0, 200);
        Due.lay(x, 3, -5, 6);
        Due.due("digest()", x.digest(), digestBy(x));
    }

    private static long digestBy(TouchedLamps x) {
        long h = 17;
        for (int what = 0; what <= 10; what++) {
            h = 31 * h + x.count(what);
        }
        for (int i = 0; i < 9; i++) {
            for (int what = 0; what <= 5; what++) {
                h = 31 * h + Due.told(x, i, what);
            }
        }
        long[] rest = {-1, 1, -1, -1, -1, -1, 2, -5, 6, -1, -1};
        for (long v : rest) {
            h = 31 * h + v;
        }
        h = 31 * h + Due.MIXED.length();
        for (int i = 0; i < Due.MIXED.length(); i++) {
            h = 31 * h + Due.MIXED.charAt(i);
        }
        long[] texts = {-1, 1, -56, -1};
        for (long v : texts) {
            h = 31 * h + v;
        }
        return h;
    }
}
