import java.util.Random;

/**
 * Promises 1 to 40: runs of calls by lots, held to PlainLamps. They go on beyond the 512 calls that the document speaks
 * of: what comes later is free, but the class has no end there, and longer runs see more.
 */
public final class PlainTest {
    private static final int RUNS = 400;
    private static final int CALLS = 500;
    private static final int[] FAR = {Integer.MIN_VALUE, Integer.MAX_VALUE, Integer.MIN_VALUE + 1, -1, 1 << 30};

    private final Random random;
    private final TouchedLamps x = new TouchedLamps();
    private final PlainLamps y = new PlainLamps();
    private final StringBuilder told = new StringBuilder();

    private PlainTest(long seed) {
        random = new Random(seed);
    }

    public static void main(String[] args) {
        for (int run = 0; run < RUNS; run++) {
            new PlainTest(run).run(run);
        }
        Due.end();
    }

    private void run(int run) {
        for (int call = 0; call < CALLS; call++) {
            told.setLength(0);
            told.append("run ").append(run).append(", call ").append(call).append(": ");
            if (random.nextInt(call < 40 ? 10 : 60) == 0) {
                writeWall();
            } else {
                any(random.nextInt(41));
            }
            same("finding()", x.finding(), y.finding());
            same("asked()", x.asked(), y.asked());
            same("upper()", x.upper(), y.upper());
            same("lower()", x.lower(), y.lower());
            same("digest()", x.digest(), y.digest());
        }
        for (int f = 1; f <= 5; f++) {
            same("findings()", x.findings(f), y.findings(f));
        }
    }

    private void same(String what, long got, long want) {
        if (got != want) {
            Due.due(told + what, got, want);
        } else {
            Due.due("", 0, 0);
        }
    }

    /** A number that mostly is one of 0 .. most, now and then just beside, seldom far off. */
    private int some(int most) {
        int how = random.nextInt(40);
        int v = how == 0 ? FAR[random.nextInt(FAR.length)]
            : how == 1 ? most + 1 : how == 2 ? -1 : how == 3 ? most : random.nextInt(most + 1);
        told.append(v).append(' ');
        return v;
    }

    private void writeWall() {
        String letters = random.nextInt(4) == 0 ? "lk" : "ltkhwf";
        StringBuilder wall = new StringBuilder();
        int lamps = random.nextInt(8) == 0 ? 8 + random.nextInt(3) : 9;
        for (int i = 0; i < lamps; i++) {
            wall.append(" ".repeat(random.nextInt(6) == 0 ? random.nextInt(4) : 0));
            char letter = letters.charAt(random.nextInt(letters.length()));
            boolean three = letter == 't' || letter == 'w';
            wall.append(letter).append(random.nextInt(three ? 3 : 2));
        }
        wall.append(" ".repeat(random.nextInt(3)));
        if (random.nextInt(6) == 0) {
            int place = random.nextInt(wall.length());
            wall.setCharAt(place, "lw 0123x\u00ff\n".charAt(random.nextInt(10)));
        }
        int t = random.nextInt(4);
        int size = Math.min(60, wall.length());
        told.append("write ").append(t).append(" '").append(wall).append("' ");
        same("text", x.text(t, size), y.text(t, size));
        for (int i = 0; i < size; i++) {
            same("put", x.put(t, i, wall.charAt(i)), y.put(t, i, wall.charAt(i)));
        }
        same("fault", x.fault(t), y.fault(t));
        same("wall", x.wall(t), y.wall(t));
    }

    /** A picture that there may be: one now, one behind some PRESSES, or any. */
    private int picture() {
        if (random.nextInt(4) == 0 || x.count(0) == 0) {
            return some(511);
        }
        int shown = x.count(3);
        x.keep(2);
        y.keep(2);
        for (int n = random.nextInt(5); n > 0; n--) {
            int p = x.press(random.nextInt(9));
            shown = p < 0 ? shown : p;
        }
        x.on(2);
        told.append(shown).append(' ');
        return shown;
    }

    private void any(int which) {
        told.append('#').append(which).append(' ');
        if (which < 14) {
            rowsAndWalls(which);
        } else if (which < 22) {
            deeds(which);
        } else {
            asides(which);
        }
    }

    private void rowsAndWalls(int which) {
        int a = some(which == 7 || which == 8 || which == 9 || which == 10 ? 3 : 5);
        int b;
        int c;
        switch (which) {
            case 0:
                b = some(random.nextInt(3) == 0 ? 40 : 16);
                same("row", x.row(a, b), y.row(a, b));
                break;
            case 1:
            case 2:
                b = some(random.nextBoolean() ? 39 : 8);
                c = random.nextInt(5) == 0 ? random.nextInt() : some(random.nextBoolean() ? 8 : 1);
                same("lay", x.lay(a, b, c), y.lay(a, b, c));
                break;
            case 3:
                b = some(39);
                same("at", x.at(a, b), y.at(a, b));
                break;
            case 4:
                same("tear", x.tear(a), y.tear(a));
                break;
            case 5:
                b = some(20);
                c = some(5);
                int d = some(20);
                int e = some(20);
                same("copy", x.copy(a, b, c, d, e), y.copy(a, b, c, d, e));
                break;
            case 6:
                same("mean", x.mean(a), y.mean(a));
                break;
            case 7:
                b = some(60);
                same("text", x.text(a, b), y.text(a, b));
                break;
            case 8:
                b = some(59);
                c = some(511);
                same("put", x.put(a, b, c), y.put(a, b, c));
                break;
            case 9:
                same("fault", x.fault(a), y.fault(a));
                break;
            case 10:
                same("wall", x.wall(a), y.wall(a));
                break;
            case 11:
                a = some(8);
                b = some(5);
                same("lamp", x.lamp(a, b), y.lamp(a, b));
                break;
            case 12:
                a = some(8);
                b = some(5);
                same("mark", x.mark(a, b), y.mark(a, b));
                break;
            default:
                layPairs(a);
                break;
        }
    }

    /** A ROW of pairs that could be true, so that kinds() and next() often have something left. */
    private void layPairs(int r) {
        int pairs = random.nextInt(5);
        same("row", x.row(r, 2 * pairs), y.row(r, 2 * pairs));
        for (int k = 0; k < pairs; k++) {
            int button = some(8);
            int lit = some(1);
            same("lay", x.lay(r, 2 * k, button), y.lay(r, 2 * k, button));
            same("lay", x.lay(r, 2 * k + 1, lit), y.lay(r, 2 * k + 1, lit));
        }
    }

    private void deeds(int which) {
        int a = some(8);
        int b;
        switch (which) {
            case 14:
            case 15:
                same("press", x.press(a), y.press(a));
                break;
            case 16:
                b = some(2);
                same("set", x.set(a, b), y.set(a, b));
                break;
            case 17:
                same("crack", x.crack(a), y.crack(a));
                break;
            case 18:
                a = some(40);
                same("undo", x.undo(a), y.undo(a));
                break;
            case 19:
                a = some(2);
                same("keep", x.keep(a), y.keep(a));
                break;
            case 20:
                a = some(2);
                same("on", x.on(a), y.on(a));
                break;
            default:
                a = some(random.nextBoolean() ? 20 : 3);
                b = random.nextBoolean() ? some(100) : random.nextInt();
                same("lots", x.lots(a, b), y.lots(a, b));
                break;
        }
    }

    private void asides(int which) {
        int a = some(8);
        int b;
        int c;
        switch (which) {
            case 22:
                b = some(2);
                c = some(1);
                int d = some(999);
                same("touched", x.touched(a, b, c, d), y.touched(a, b, c, d));
                break;
            case 23:
                a = some(5);
                same("shows", x.shows(a), y.shows(a));
                break;
            case 24:
                same("most", x.most(), y.most());
                break;
            case 25:
                a = picture();
                b = some(5);
                same("fewest", x.fewest(a, b), y.fewest(a, b));
                break;
            case 26:
                a = picture();
                same("ways", x.ways(a), y.ways(a));
                break;
            case 27:
                a = picture();
                same("sure", x.sure(a), y.sure(a));
                break;
            case 28:
                a = picture();
                same("which", x.which(a), y.which(a));
                break;
            case 29:
            case 30:
                b = some(5);
                same("kinds", x.kinds(a, b), y.kinds(a, b));
                break;
            case 31:
            case 32:
                b = some(5);
                same("next", x.next(a, b), y.next(a, b));
                break;
            case 33:
                a = some(18);
                same("sums", x.sums(a), y.sums(a));
                break;
            case 34:
                a = some(511);
                b = some(2);
                same("duel", x.duel(a, b), y.duel(a, b));
                break;
            case 35:
            case 36:
                b = picture();
                c = some(12);
                same("odds", x.odds(a, b, c), y.odds(a, b, c));
                break;
            case 37:
                b = some(12);
                same("mid", x.mid(a, b), y.mid(a, b));
                break;
            case 38:
                a = some(10);
                same("count", x.count(a), y.count(a));
                break;
            default:
                a = some(6);
                same("findings", x.findings(a), y.findings(a));
                break;
        }
    }
}
