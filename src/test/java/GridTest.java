import java.lang.reflect.InvocationTargetException;
import java.lang.reflect.Method;
import java.util.ArrayList;
import java.util.HashMap;
import java.util.List;
import java.util.Map;

/**
 * Every call with every choice of arguments at and beside its edges, without LAMPS, with some DEEDS, with 40: held to
 * PlainLamps, so that refusals that fit together come in the document's order, whichever they are.
 */
public final class GridTest {
    private static final int LEAST = Integer.MIN_VALUE, GREATEST = Integer.MAX_VALUE;
    private static final int MOST_CALLS = 300;
    private static final int[] ROWS = {LEAST, -1, 0, 1, 2, 3, 4, 5, 6, GREATEST};
    private static final int[] SOME_ROWS = {-1, 0, 1, 2, 3, 6};
    private static final int[] PLACES = {LEAST, -1, 0, 1, 2, 3, 4, 39, 40, GREATEST};
    private static final int[] SOME_PLACES = {-1, 0, 1, 3, 4, 40, GREATEST};
    private static final int[] MANY = {LEAST, -1, 0, 1, 3, 40, 41, GREATEST};
    private static final int[] TEXTS = {LEAST, -1, 0, 1, 2, 3, 4, GREATEST};
    private static final int[] BYTES = {LEAST, -129, -128, -1, 0, 32, 127, 128, 255, 256, GREATEST};
    private static final int[] SIZES = {LEAST, -1, 0, 1, 39, 40, 41, 59, 60, 61, GREATEST};
    private static final int[] LAMPS = {LEAST, -1, 0, 1, 2, 3, 4, 5, 6, 7, 8, 9, GREATEST};
    private static final int[] SIX = {LEAST, -1, 0, 1, 2, 3, 4, 5, 6, GREATEST};
    private static final int[] STEPS = {LEAST, -1, 0, 1, 2, 3, GREATEST};
    private static final int[] KEPT = {LEAST, -1, 0, 1, 2, 3, GREATEST};
    private static final int[] NUMBERS = {LEAST, -1, 0, 1, 998, 999, 1000, GREATEST};
    private static final int[] DEEDS = {LEAST, -1, 0, 1, 3, 4, 5, 39, 40, 41, GREATEST};
    private static final int[] PICTURES = {LEAST, -1, 0, 1, 122, 208, 217, 227, 255, 256, 510, 511, 512, GREATEST};
    private static final int[] SUMS = {LEAST, -1, 0, 1, 2, 3, 4, 5, 6, 7, 8, 9, 17, 18, 19, GREATEST};
    private static final int[] PARTS = {LEAST, -1, 0, 1, 6, 11, 12, 13, GREATEST};
    private static final int[] LOTS = {LEAST, -1, 0, 1, 2, 19, 20, 21, GREATEST};
    private static final int[] SEEDS = {LEAST, -1, 0, 1, 2, 2147483645, 2147483646, GREATEST};
    private static final int[] COUNTS = {LEAST, -1, 0, 1, 2, 3, 4, 5, 6, 7, 8, 9, 10, 11, GREATEST};

    private static final Map<String, Method> MINE = new HashMap<>();
    private static final Map<String, Method> PLAIN = new HashMap<>();

    private final List<String> names = new ArrayList<>();
    private final List<int[]> args = new ArrayList<>();
    private final String scene;
    private TouchedLamps x;
    private PlainLamps y;
    private int calls;

    private GridTest(String scene) {
        this.scene = scene;
    }

    public static void main(String[] none) {
        for (Method method : TouchedLamps.class.getDeclaredMethods()) {
            MINE.put(method.getName(), method);
        }
        for (Method method : PlainLamps.class.getDeclaredMethods()) {
            PLAIN.put(method.getName() + method.getParameterCount(), method);
        }
        GridTest bare = new GridTest("without LAMPS");
        bare.rowsAndTexts();
        bare.all();
        GridTest lit = new GridTest("with 4 DEEDS");
        lit.rowsAndTexts();
        lit.wall();
        lit.all();
        GridTest full = new GridTest("with 40 DEEDS");
        full.rowsAndTexts();
        full.wall();
        for (int deed = 4; deed < 40; deed++) {
            full.then("crack", 7);
        }
        full.all();
        Due.end();
    }

    private void then(String name, int... with) {
        names.add(name);
        args.add(with);
    }

    private void write(int t, String text) {
        then("text", t, text.length());
        for (int i = 0; i < text.length(); i++) {
            then("put", t, i, text.charAt(i));
        }
    }

    private void lay(int r, int... values) {
        then("row", r, values.length);
        for (int i = 0; i < values.length; i++) {
            then("lay", r, i, values[i]);
        }
    }

    /** ROWS: 0 three ints, 1 empty, 2 missing, 3 forty, 4 two pairs, 5 no pairs. TEXTS: a WALL, a FAULT, empty, none. */
    private void rowsAndTexts() {
        write(0, Due.MIXED);
        write(1, "l0 x");
        then("text", 2, 0);
        lay(0, 5, -7, 8);
        then("row", 1, 0);
        then("row", 3, 40);
        then("lay", 3, 0, 9);
        then("lay", 3, 39, 3);
        lay(4, 0, 1, 4, 0);
        lay(5, 9, 2, 9);
        then("at", 0, 1);
    }

    private void wall() {
        then("wall", 0);
        then("press", 4);
        then("crack", 5);
        then("keep", 0);
        then("undo", 1);
        then("set", 1, 2);
        then("press", 0);
        then("keep", 2);
        then("crack", 8);
        then("mid", 0, 7);
        then("at", 0, 1);
    }

    private void makeAnew() {
        x = new TouchedLamps();
        y = new PlainLamps();
        calls = 0;
        for (int k = 0; k < names.size(); k++) {
            ask(names.get(k), args.get(k));
        }
        calls = 0;
    }

    private static long invoke(Method method, Object of, int[] with) {
        Object[] boxed = java.util.Arrays.stream(with).boxed().toArray();
        try {
            method.setAccessible(true);
            return ((Number) method.invoke(of, boxed)).longValue();
        } catch (IllegalAccessException | InvocationTargetException e) {
            throw new IllegalStateException(Edge.told(method.getName(), with), e);
        }
    }

    private long ask(String name, int... with) {
        long want = invoke(PLAIN.get(name + with.length), y, with);
        long got = invoke(MINE.get(name), x, with);
        calls++;
        Due.due(got == want ? "" : scene + ": " + Edge.told(name, with), got, want);
        return want;
    }

    private void all() {
        makeAnew();
        grid("row", ROWS, SIZES);
        grid("lay", ROWS, PLACES, BYTES);
        grid("at", ROWS, PLACES);
        grid("tear", ROWS);
        grid("copy", SOME_ROWS, SOME_PLACES, SOME_ROWS, SOME_PLACES, MANY);
        grid("mean", ROWS);
        grid("text", TEXTS, SIZES);
        grid("put", TEXTS, PLACES, BYTES);
        grid("fault", TEXTS);
        grid("wall", TEXTS);
        grid("lamp", LAMPS, SIX);
        grid("mark", LAMPS, SIX);
        grid("press", LAMPS);
        grid("set", LAMPS, STEPS);
        grid("crack", LAMPS);
        grid("undo", DEEDS);
        grid("keep", KEPT);
        grid("on", KEPT);
        grid("touched", LAMPS, STEPS, STEPS, NUMBERS);
        grid("shows", ROWS);
        grid("most");
        grid("fewest", PICTURES, ROWS);
        grid("ways", PICTURES);
        grid("sure", PICTURES);
        grid("which", PICTURES);
        grid("kinds", LAMPS, ROWS);
        grid("next", LAMPS, ROWS);
        grid("sums", SUMS);
        grid("duel", PICTURES, STEPS);
        grid("odds", LAMPS, PICTURES, PARTS);
        grid("mid", LAMPS, PARTS);
        grid("lots", LOTS, SEEDS);
        grid("count", COUNTS);
        grid("findings", SIX);
    }

    private void grid(String name, int[]... choices) {
        int[] with = new int[choices.length];
        int all = 1;
        for (int[] choice : choices) {
            all *= choice.length;
        }
        for (int which = 0; which < all; which++) {
            int rest = which;
            for (int k = 0; k < choices.length; k++) {
                with[k] = choices[k][rest % choices[k].length];
                rest /= choices[k].length;
            }
            one(name, with.clone());
        }
    }

    private void one(String name, int[] with) {
        long before = y.digest();
        ask(name, with);
        String told = scene + ": " + Edge.told(name, with) + ", then ";
        same(told, "finding()", x.finding(), y.finding());
        for (int f = 1; f <= 5; f++) {
            same(told, "findings(" + f + ")", x.findings(f), y.findings(f));
        }
        same(told, "asked()", x.asked(), y.asked());
        same(told, "upper()", x.upper(), y.upper());
        same(told, "lower()", x.lower(), y.lower());
        same(told, "digest()", x.digest(), y.digest());
        calls += 10;
        if (calls > MOST_CALLS || y.digest() != before) {
            makeAnew();
        }
    }

    private static void same(String told, String what, long got, long want) {
        Due.due(got == want ? "" : told + what, got, want);
    }
}
