import java.math.BigInteger;
import java.util.ArrayList;
import java.util.List;

/**
 * The document once more, as slow and plain as can be: lamps as letters, DEEDS done again from the first wall on,
 * searches without a short cut. PlainTest holds the class to it.
 */
final class PlainLamps {
    private static final String LETTERS = "ltkhwf";

    /** How the nine stand at one moment. */
    private static final class Moment {
        String letters;
        final int[] step = new int[9];
        final boolean[] broken = new boolean[9];
        int number;

        Moment then() {
            Moment m = new Moment();
            m.letters = letters;
            System.arraycopy(step, 0, m.step, 0, 9);
            System.arraycopy(broken, 0, m.broken, 0, 9);
            m.number = number;
            return m;
        }

        boolean shows(int i) {
            if (broken[i]) {
                return false;
            }
            return letters.charAt(i) == 'f' ? step[i] == 0 : step[i] > 0;
        }

        int picture() {
            int bits = 0;
            for (int i = 0; i < 9; i++) {
                bits += shows(i) ? 1 << i : 0;
            }
            return bits;
        }

        Moment pressed(int button) {
            return pressed(button, 511);
        }

        /** Only LAMPS of a set are reached; the others' touches fail. */
        Moment pressed(int button, int reached) {
            Moment m = then();
            for (int i = 0; i < 9; i++) {
                if (near(i, button) && !broken[i] && (reached >> i & 1) == 1) {
                    m.step[i] = touch(letters.charAt(i), step[i], i == button, number);
                }
            }
            m.number++;
            return m;
        }
    }

    static boolean near(int a, int b) {
        return Math.abs(a / 3 - b / 3) + Math.abs(a % 3 - b % 3) <= 1;
    }

    static int touch(char letter, int step, boolean own, int number) {
        switch (letter) {
            case 't':
                return step == 2 ? 0 : step + 1;
            case 'w':
                return number % 2 == 1 ? step : step == 2 ? 0 : step + 1;
            case 'k':
                return 1;
            case 'h':
            case 'f':
                return own ? step : 1 - step;
            default:
                return 1 - step;
        }
    }

    private final int[][] rows = new int[6][];
    private final int[][] texts = new int[4][];
    private Moment first = null;
    private List<int[]> deeds = new ArrayList<>();
    private final List<List<int[]>> kept = new ArrayList<>();
    private int asked = 0;
    private long upper = 0;
    private long lower = 1;
    private int finding = 0;
    private final int[] findings = new int[6];

    PlainLamps() {
        clearKept();
    }

    private void clearKept() {
        kept.clear();
        for (int k = 0; k < 3; k++) {
            kept.add(null);
        }
    }

    private Moment now() {
        Moment m = first.then();
        for (int[] deed : deeds) {
            if (deed[0] == 0) {
                m = m.pressed(deed[1]);
            } else if (deed[0] == 1) {
                m.step[deed[1]] = deed[2];
            } else {
                m.broken[deed[1]] = !m.broken[deed[1]];
            }
        }
        return m;
    }

    private int find(int f) {
        finding = f;
        findings[f]++;
        return -3;
    }

    private int tell(int v) {
        asked = v;
        return 1;
    }

    private int tellParts(BigInteger a, BigInteger b) {
        BigInteger g = a.gcd(b);
        upper = a.divide(g).longValueExact();
        lower = b.divide(g).longValueExact();
        return 1;
    }

    private static boolean in(int v, int least, int greatest) {
        return least <= v && v <= greatest;
    }

    private boolean lampIs(int i) {
        return first != null && in(i, 0, 8);
    }

    private static int lastStep(char letter) {
        return letter == 't' || letter == 'w' ? 2 : 1;
    }

    int row(int r, int n) {
        if (!in(r, 0, 5) || n > 40) {
            return -1;
        }
        if (n < 0) {
            return find(5);
        }
        rows[r] = new int[n];
        return n;
    }

    int lay(int r, int i, int v) {
        if (!in(r, 0, 5)) {
            return -1;
        }
        if (rows[r] == null) {
            return find(1);
        }
        if (!in(i, 0, rows[r].length - 1)) {
            return find(2);
        }
        asked = rows[r][i];
        rows[r][i] = v;
        return 1;
    }

    int at(int r, int i) {
        if (!in(r, 0, 5)) {
            return -1;
        }
        if (rows[r] == null) {
            return find(1);
        }
        return in(i, 0, rows[r].length - 1) ? tell(rows[r][i]) : find(2);
    }

    int tear(int r) {
        if (!in(r, 0, 5)) {
            return -1;
        }
        if (rows[r] == null) {
            return find(1);
        }
        rows[r] = null;
        return 1;
    }

    int copy(int r, int i, int to, int j, int n) {
        if (!in(r, 0, 5) || !in(to, 0, 5)) {
            return -1;
        }
        if (n < 0) {
            return find(5);
        }
        if (rows[r] == null || rows[to] == null) {
            return find(1);
        }
        if (i < 0 || j < 0 || 0L + i + n > rows[r].length || 0L + j + n > rows[to].length) {
            return find(2);
        }
        int[] taken = rows[r].clone();
        for (int k = 0; k < n; k++) {
            rows[to][j + k] = taken[i + k];
        }
        return 1;
    }

    int mean(int r) {
        if (!in(r, 0, 5)) {
            return -1;
        }
        if (rows[r] == null) {
            return find(1);
        }
        if (rows[r].length == 0) {
            return find(4);
        }
        BigInteger sum = BigInteger.ZERO;
        for (int v : rows[r]) {
            sum = sum.add(BigInteger.valueOf(v));
        }
        return tell(sum.divide(BigInteger.valueOf(rows[r].length)).intValueExact());
    }

    int text(int t, int n) {
        if (!in(t, 0, 3) || n > 60) {
            return -1;
        }
        if (n < 0) {
            return find(5);
        }
        texts[t] = new int[n];
        java.util.Arrays.fill(texts[t], 32);
        return n;
    }

    int put(int t, int i, int v) {
        if (!in(t, 0, 3)) {
            return -1;
        }
        if (texts[t] == null) {
            return find(1);
        }
        if (!in(i, 0, texts[t].length - 1)) {
            return find(2);
        }
        int was = texts[t][i];
        int low = Math.floorMod(v, 256);
        texts[t][i] = low > 127 ? low - 256 : low;
        return was + 1000;
    }

    /** The first place from which no end that is right could be written on: each beginning is looked at anew. */
    int fault(int t) {
        if (!in(t, 0, 3)) {
            return -1;
        }
        if (texts[t] == null) {
            return find(1);
        }
        return faultOf(texts[t]);
    }

    private static String begun(int[] text, int n) {
        StringBuilder b = new StringBuilder();
        for (int i = 0; i < n; i++) {
            b.append(text[i] < 0 ? '?' : (char) text[i]);
        }
        return b.toString();
    }

    private static int faultOf(int[] text) {
        String item = "(l[01]|t[012]|k[01]|h[01]|w[012]|f[01])";
        String whole = " *(" + item + " *){9}";
        String part = " *(" + item + " *){0,9}| *(" + item + " *){0,8}[ltkhwf]";
        if (begun(text, text.length).matches(whole)) {
            return -9;
        }
        for (int n = 1; n <= text.length; n++) {
            if (!begun(text, n).matches(part)) {
                return n - 1;
            }
        }
        return text.length;
    }

    int wall(int t) {
        if (!in(t, 0, 3)) {
            return -1;
        }
        if (texts[t] == null) {
            return find(1);
        }
        if (faultOf(texts[t]) != -9) {
            return -4;
        }
        String packed = begun(texts[t], texts[t].length).replace(" ", "");
        first = new Moment();
        first.letters = "";
        for (int i = 0; i < 9; i++) {
            first.letters += packed.charAt(2 * i);
            first.step[i] = packed.charAt(2 * i + 1) - '0';
        }
        deeds = new ArrayList<>();
        clearKept();
        return 9;
    }

    private int of(Moment m, int i, int what) {
        switch (what) {
            case 0:
                return LETTERS.indexOf(m.letters.charAt(i));
            case 1:
                return m.step[i];
            case 2:
                return m.shows(i) ? 1 : 0;
            case 3:
                return m.broken[i] ? 1 : 0;
            case 4:
                int bits = 0;
                for (int j = 0; j < 9; j++) {
                    bits += near(i, j) ? 1 << j : 0;
                }
                return bits;
            default:
                return touch(m.letters.charAt(i), m.step[i], true, m.number);
        }
    }

    int lamp(int i, int what) {
        return !lampIs(i) || !in(what, 0, 5) ? -1 : tell(of(now(), i, what));
    }

    int mark(int i, int kind) {
        if (!lampIs(i) || !in(kind, 1, 5)) {
            return -1;
        }
        Moment m = now();
        String are = new String[] {"", "tw", "k", "hf", "w", "f"}[kind];
        if (are.indexOf(m.letters.charAt(i)) < 0) {
            return find(3);
        }
        int many = 0;
        switch (kind) {
            case 1:
                for (int s = m.step[i]; s != 0; s = (s + 1) % 3) {
                    many++;
                }
                return many;
            case 2:
                for (int j = 0; j < 9; j++) {
                    many += m.letters.charAt(j) == 'k' && m.step[j] == 0 ? 1 : 0;
                }
                return many;
            case 3:
                for (int j = 0; j < 9; j++) {
                    many += j != i && near(i, j) ? 1 : 0;
                }
                return many;
            case 4:
                return m.number % 2 == 0 ? 0 : 1;
            default:
                for (int j = 0; j < 9; j++) {
                    many += j != i && m.shows(j) ? 1 : 0;
                }
                return many;
        }
    }

    int press(int i) {
        if (first == null) {
            return -4;
        }
        if (!in(i, 0, 8)) {
            return -1;
        }
        if (deeds.size() == 40) {
            return -2;
        }
        deeds.add(new int[] {0, i, 0});
        return now().picture();
    }

    int set(int i, int step) {
        if (!lampIs(i) || !in(step, 0, lastStep(first.letters.charAt(i)))) {
            return -1;
        }
        int was = now().step[i];
        if (was == step) {
            return -4;
        }
        if (deeds.size() == 40) {
            return -2;
        }
        deeds.add(new int[] {1, i, step});
        return was;
    }

    int crack(int i) {
        if (!lampIs(i)) {
            return -1;
        }
        if (deeds.size() == 40) {
            return -2;
        }
        deeds.add(new int[] {2, i, 0});
        return now().broken[i] ? 1 : 0;
    }

    int undo(int n) {
        if (!in(n, 0, deeds.size())) {
            return -1;
        }
        int undone = deeds.size() - n;
        deeds = new ArrayList<>(deeds.subList(0, n));
        return undone;
    }

    int keep(int k) {
        if (!in(k, 0, 2)) {
            return -1;
        }
        if (first == null) {
            return -4;
        }
        kept.set(k, new ArrayList<>(deeds));
        return deeds.size();
    }

    int on(int k) {
        if (!in(k, 0, 2)) {
            return -1;
        }
        if (kept.get(k) == null) {
            return find(1);
        }
        deeds = new ArrayList<>(kept.get(k));
        return deeds.size();
    }

    int touched(int i, int step, int own, int number) {
        if (!lampIs(i) || !in(step, 0, lastStep(first.letters.charAt(i))) || !in(own, 0, 1) || !in(number, 0, 999)) {
            return -1;
        }
        return touch(first.letters.charAt(i), step, own == 1, number);
    }

    int shows(int r) {
        if (first == null) {
            return -4;
        }
        if (!in(r, 0, 5)) {
            return -1;
        }
        if (rows[r] == null) {
            return find(1);
        }
        if (rows[r].length > 20) {
            return find(5);
        }
        Moment m = now();
        for (int button : rows[r]) {
            if (!in(button, 0, 8)) {
                return find(3);
            }
            m = m.pressed(button);
        }
        return m.picture();
    }

    int most() {
        if (first == null) {
            return -4;
        }
        int best = 0;
        int many = -1;
        for (int button = 0; button < 9; button++) {
            int shown = Integer.bitCount(now().pressed(button).picture());
            if (shown > many) {
                best = button;
                many = shown;
            }
        }
        asked = many;
        return best;
    }

    int fewest(int picture, int r) {
        if (first == null) {
            return -4;
        }
        if (!in(picture, 0, 511) || !in(r, 0, 5)) {
            return -1;
        }
        Moment start = now();
        int sequences = 1;
        for (int n = 0; n <= 4; n++) {
            for (int s = 0; s < sequences; s++) {
                int[] buttons = new int[n];
                int rest = s;
                for (int k = n - 1; k >= 0; k--) {
                    buttons[k] = rest % 9;
                    rest /= 9;
                }
                Moment m = start;
                for (int button : buttons) {
                    m = m.pressed(button);
                }
                if (m.picture() == picture) {
                    rows[r] = buttons;
                    return n;
                }
            }
            sequences *= 9;
        }
        return -9;
    }

    private List<Integer> setsTo(int picture) {
        List<Integer> sets = new ArrayList<>();
        Moment start = now();
        for (int set = 0; set < 512; set++) {
            Moment m = start;
            for (int button = 0; button < 9; button++) {
                m = (set >> button & 1) == 1 ? m.pressed(button) : m;
            }
            if (m.picture() == picture) {
                sets.add(set);
            }
        }
        return sets;
    }

    int ways(int picture) {
        if (first == null) {
            return -4;
        }
        if (!in(picture, 0, 511)) {
            return -1;
        }
        List<Integer> sets = setsTo(picture);
        upper = sets.size();
        lower = 1;
        return tell(sets.isEmpty() ? -9 : sets.get(0));
    }

    int sure(int picture) {
        if (first == null) {
            return -4;
        }
        if (!in(picture, 0, 511)) {
            return -1;
        }
        List<Integer> sets = setsTo(picture);
        if (sets.isEmpty()) {
            return find(4);
        }
        int all = 0;
        int none = 0;
        for (int button = 0; button < 9; button++) {
            int many = 0;
            for (int set : sets) {
                many += set >> button & 1;
            }
            all += many == sets.size() ? 1 << button : 0;
            none += many == 0 ? 1 << button : 0;
        }
        asked = none;
        return all;
    }

    int which(int picture) {
        if (first == null) {
            return -4;
        }
        if (!in(picture, 0, 511)) {
            return -1;
        }
        int bits = 0;
        for (int button = 0; button < 9; button++) {
            bits += now().pressed(button).picture() == picture ? 1 << button : 0;
        }
        return bits;
    }

    private boolean showsAs(int i, char letter, int button) {
        Moment m = now();
        m.letters = m.letters.substring(0, i) + letter + m.letters.substring(i + 1);
        return m.pressed(button).shows(i);
    }

    private int refusedPairs(int i, int r) {
        if (!lampIs(i) || !in(r, 0, 5)) {
            return -1;
        }
        if (rows[r] == null) {
            return find(1);
        }
        if (rows[r].length % 2 == 1 || rows[r].length > 16) {
            return find(5);
        }
        for (int k = 0; k < rows[r].length; k++) {
            if (!in(rows[r][k], 0, k % 2 == 0 ? 8 : 1)) {
                return find(3);
            }
        }
        return 0;
    }

    private String lettersBy(int i, int[] pairs) {
        StringBuilder fitting = new StringBuilder();
        for (char letter : LETTERS.toCharArray()) {
            boolean fits = now().step[i] <= lastStep(letter);
            for (int k = 0; fits && k < pairs.length; k += 2) {
                fits = showsAs(i, letter, pairs[k]) == (pairs[k + 1] == 1);
            }
            fitting.append(fits ? String.valueOf(letter) : "");
        }
        return fitting.toString();
    }

    int kinds(int i, int r) {
        int refused = refusedPairs(i, r);
        if (refused != 0) {
            return refused;
        }
        int bits = 0;
        for (char letter : lettersBy(i, rows[r]).toCharArray()) {
            bits += 1 << LETTERS.indexOf(letter);
        }
        return bits;
    }

    int next(int i, int r) {
        int refused = refusedPairs(i, r);
        if (refused != 0) {
            return refused;
        }
        String letters = lettersBy(i, rows[r]);
        if (letters.isEmpty()) {
            return -9;
        }
        int best = -1;
        int least = 99;
        for (int button = 0; button < 9; button++) {
            int lit = 0;
            int dark = 0;
            for (char letter : letters.toCharArray()) {
                if (showsAs(i, letter, button)) {
                    lit++;
                } else {
                    dark++;
                }
            }
            if (Math.max(lit, dark) < least) {
                least = Math.max(lit, dark);
                best = button;
            }
        }
        asked = least;
        return best;
    }

    int sums(int v) {
        if (first == null) {
            return -4;
        }
        if (!in(v, 0, 18)) {
            return -1;
        }
        Moment m = now();
        int many = 0;
        int least = -9;
        for (int set = 511; set >= 0; set--) {
            int sum = 0;
            for (int i = 0; i < 9; i++) {
                sum += (set >> i & 1) * m.step[i];
            }
            if (sum == v) {
                many++;
                least = set;
            }
        }
        upper = many;
        lower = 1;
        return tell(least);
    }

    private static int bestFor(boolean firstOne, Moment m, int left, int set) {
        if (left == 0) {
            int lead = 0;
            for (int i = 0; i < 9; i++) {
                lead += !m.shows(i) ? 0 : (set >> i & 1) == 1 ? 1 : -1;
            }
            return lead;
        }
        int best = bestFor(!firstOne, m, left - 1, set);
        for (int button = 0; button < 9; button++) {
            int worth = bestFor(!firstOne, m.pressed(button), left - 1, set);
            best = firstOne ? Math.max(best, worth) : Math.min(best, worth);
        }
        return best;
    }

    int duel(int set, int n) {
        if (first == null) {
            return -4;
        }
        if (!in(set, 0, 511) || !in(n, 0, 2)) {
            return -1;
        }
        return tell(bestFor(true, now(), 2 * n, set));
    }

    /** Over all sets of LAMPS of the nine that may be reached, each with its weight of 12 to the ninth. */
    private int weigh(int i, int p, int picture) {
        Moment m = now();
        BigInteger sum = BigInteger.ZERO;
        for (int reached = 0; reached < 512; reached++) {
            BigInteger weight = BigInteger.ONE;
            for (int j = 0; j < 9; j++) {
                weight = weight.multiply(BigInteger.valueOf((reached >> j & 1) == 1 ? 12 - p : p));
            }
            int shown = m.pressed(i, reached).picture();
            int worth = picture < 0 ? Integer.bitCount(shown) : shown == picture ? 1 : 0;
            sum = sum.add(weight.multiply(BigInteger.valueOf(worth)));
        }
        return tellParts(sum, BigInteger.valueOf(12).pow(9));
    }

    int odds(int i, int picture, int p) {
        if (first == null) {
            return -4;
        }
        return !in(i, 0, 8) || !in(picture, 0, 511) || !in(p, 0, 12) ? -1 : weigh(i, p, picture);
    }

    int mid(int i, int p) {
        if (first == null) {
            return -4;
        }
        return !in(i, 0, 8) || !in(p, 0, 12) ? -1 : weigh(i, p, -1);
    }

    int lots(int n, int seed) {
        if (first == null) {
            return -4;
        }
        if (!in(n, 1, 20) || !in(seed, 1, 2147483646)) {
            return -1;
        }
        if (deeds.size() + n > 40) {
            return -2;
        }
        BigInteger lot = BigInteger.valueOf(seed);
        for (int k = 0; k < n; k++) {
            lot = lot.multiply(BigInteger.valueOf(48271)).mod(BigInteger.valueOf(2147483647));
            int number = lot.intValueExact();
            int i = number % 9;
            int by = number / 16 % 8;
            int steps = lastStep(first.letters.charAt(i)) + 1;
            int next = (now().step[i] + 1) % steps;
            deeds.add(by < 6 ? new int[] {0, i, 0} : by == 6 ? new int[] {1, i, next} : new int[] {2, i, 0});
        }
        return now().picture();
    }

    int asked() {
        return asked;
    }

    long upper() {
        return upper;
    }

    long lower() {
        return lower;
    }

    private static int there(Object[] those) {
        int many = 0;
        for (Object one : those) {
            many += one == null ? 0 : 1;
        }
        return many;
    }

    int count(int what) {
        if (!in(what, 0, 10)) {
            return -1;
        }
        if (what >= 8) {
            return what == 8 ? there(rows) : what == 9 ? there(texts) : there(kept.toArray());
        }
        if (first == null) {
            return 0;
        }
        Moment m = now();
        int sum = 0;
        for (int i = 0; i < 9; i++) {
            char letter = m.letters.charAt(i);
            switch (what) {
                case 0:
                    sum++;
                    break;
                case 4:
                    sum += m.broken[i] ? 1 << i : 0;
                    break;
                case 5:
                    sum += m.step[i];
                    break;
                case 6:
                    sum += letter == 't' || letter == 'w' ? 1 : 0;
                    break;
                case 7:
                    sum += letter == 'h' || letter == 'f' ? 1 : 0;
                    break;
                default:
                    break;
            }
        }
        return what == 1 ? m.number : what == 2 ? deeds.size() : what == 3 ? m.picture() : sum;
    }

    int finding() {
        return finding;
    }

    int findings(int f) {
        return in(f, 1, 5) ? findings[f] : -1;
    }

    long digest() {
        List<Integer> all = new ArrayList<>();
        for (int what = 0; what <= 10; what++) {
            all.add(count(what));
        }
        for (int k = 0; first != null && k < 54; k++) {
            all.add(of(now(), k / 6, k % 6));
        }
        for (List<int[]> one : kept) {
            all.add(one == null ? -1 : one.size());
        }
        for (int[][] those : new int[][][] {rows, texts}) {
            for (int[] one : those) {
                all.add(one == null ? -1 : one.length);
                for (int k = 0; one != null && k < one.length; k++) {
                    all.add(one[k]);
                }
            }
        }
        long h = 17;
        for (int v : all) {
            h = 31 * h + v;
        }
        return h;
    }
}
