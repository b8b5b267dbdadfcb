/**
 * Nine lamps on a wall, three by three, whose buttons take the neighbours along.
 *
 * How a wall stands is one int, three sets of LAMPS in it (see Steps), so that what looks ahead over
 * thousands of PRESSES makes no objects; all rows are made with the object and used again.
 */
public final class TouchedLamps {
    public static final int BAD = -1, FULL = -2, FINDING = -3, STATE = -4, SPENT = -6, NONE = -9;

    private static final int NOTHING = 1, BEYOND = 2, UNLIKE = 3, NOUGHT = 4, SIZE = 5;
    private static final int ROWS = 6, MOST_INTS = 40, TEXTS = 4, MOST_BYTES = 60, BLANK = 32;
    private static final int MISSING = -1, GRANTED = 0, BYTE_SHIFT = 1000;
    private static final int LAMPS = 9, ALL = 511, SETS = 512;
    private static final int LAMP = 0, THREE = 1, STUCK = 2, SHY = 3, SLOW = 4, FALSE = 5, KINDS = 6;
    private static final int MOST_DEEDS = 40, PLACES = 3, MOST_NUMBER = 999;
    private static final int MOST_SHOWN = 20, MOST_FEWEST = 4, MOST_PAIRED = 16;
    private static final int MOST_SUM = 18, MOST_TURNS = 2, PARTS = 12, MOST_LOTS = 20;
    private static final int COUNTS = 11, TOLD_OF_LAMP = 6;
    private static final long LOT_TIMES = 48271L, LOT_MODULUS = 2147483647L;
    private static final int[] TOUCHES = {11, 23, 38, 89, 186, 308, 200, 464, 416};

    private final Row[] rows = new Row[ROWS];
    private final Row[] texts = new Row[TEXTS];
    private final Past[] kept = new Past[PLACES];
    private final Past now = new Past();
    private final Kinds kinds = new Kinds();
    private final Kinds trial = new Kinds();
    private final Reader reader = new Reader();
    private final int[] behindSets = new int[SETS];
    private final int[] path = new int[MOST_FEWEST];
    private final int[] findings = new int[SIZE + 1];
    private int finding = 0;
    private int asked = 0;
    private long upper = 0;
    private long lower = 1;

    public TouchedLamps() {
        for (int r = 0; r < ROWS; r++) {
            rows[r] = new Row(MOST_INTS);
        }
        for (int t = 0; t < TEXTS; t++) {
            texts[t] = new Row(MOST_BYTES);
        }
        for (int k = 0; k < PLACES; k++) {
            kept[k] = new Past();
        }
    }

    // ---- 1 rows, texts, walls

    public int row(int r, int n) {
        return makeAnew(rowAt(r), n, MOST_INTS, 0);
    }

    public int lay(int r, int i, int v) {
        Row row = rowAt(r);
        int refusal = refusalOfPlace(row, i);
        if (row == null || refusal != GRANTED) {
            return refusal;
        }
        int was = row.valueAt(i);
        row.change(i, v);
        return tellAsked(was);
    }

    public int at(int r, int i) {
        Row row = rowAt(r);
        int refusal = refusalOfPlace(row, i);
        return row == null || refusal != GRANTED ? refusal : tellAsked(row.valueAt(i));
    }

    public int tear(int r) {
        Row row = rowAt(r);
        int refusal = refusalOfMissing(row);
        if (row == null || refusal != GRANTED) {
            return refusal;
        }
        row.remove();
        return 1;
    }

    public int copy(int r, int i, int to, int j, int n) {
        Row from = rowAt(r);
        Row into = rowAt(to);
        if (from == null || into == null) {
            return BAD;
        }
        if (n < 0) {
            return found(SIZE);
        }
        if (!from.isThere() || !into.isThere()) {
            return found(NOTHING);
        }
        if (!from.hasRun(i, n) || !into.hasRun(j, n)) {
            return found(BEYOND);
        }
        into.takeRun(from, i, j, n);
        return 1;
    }

    public int mean(int r) {
        Row row = rowAt(r);
        int refusal = refusalOfMissing(row);
        if (row == null || refusal != GRANTED) {
            return refusal;
        }
        int size = row.size();
        if (size <= 0) {
            return found(NOUGHT);
        }
        return tellAsked((int) (row.total() / size));
    }

    public int text(int t, int n) {
        return makeAnew(textAt(t), n, MOST_BYTES, BLANK);
    }

    public int put(int t, int i, int v) {
        Row text = textAt(t);
        int refusal = refusalOfPlace(text, i);
        if (text == null || refusal != GRANTED) {
            return refusal;
        }
        int was = text.valueAt(i);
        text.change(i, (byte) v);
        return was + BYTE_SHIFT;
    }

    public int fault(int t) {
        Row text = textAt(t);
        int refusal = refusalOfMissing(text);
        return text == null || refusal != GRANTED ? refusal : reader.faultOf(text);
    }

    public int wall(int t) {
        Row text = textAt(t);
        int refusal = refusalOfMissing(text);
        if (text == null || refusal != GRANTED) {
            return refusal;
        }
        if (reader.faultOf(text) != NONE) {
            return STATE;
        }
        kinds.takeFrom(reader.kinds);
        now.begin(reader.state);
        for (int k = 0; k < PLACES; k++) {
            kept[k].forget();
        }
        return LAMPS;
    }

    public int lamp(int i, int what) {
        if (!isLamp(i) || what < 0 || what >= TOLD_OF_LAMP) {
            return BAD;
        }
        return tellAsked(toldOfLamp(i, what));
    }

    public int mark(int i, int kind) {
        if (!isLamp(i) || kind <= LAMP || kind >= KINDS) {
            return BAD;
        }
        if (!Kinds.isA(kinds.kindOf(i), kind)) {
            return found(UNLIKE);
        }
        int state = now.state();
        switch (kind) {
            case THREE:
                return (3 - Steps.of(state, i)) % 3;
            case STUCK:
                return Integer.bitCount(kinds.stucks & ~Steps.above(state));
            case SHY:
                return Integer.bitCount(touchedBy(i)) - 1;
            case SLOW:
                return now.number() % 2;
            default:
                return Integer.bitCount(kinds.showing(state) & ~(1 << i));
        }
    }

    // ---- 2 deeds

    public int press(int i) {
        if (!now.isThere()) {
            return STATE;
        }
        if (!isLamp(i)) {
            return BAD;
        }
        if (now.room() < 1) {
            return FULL;
        }
        doPress(i);
        return kinds.showing(now.state());
    }

    public int set(int i, int step) {
        if (!isLamp(i) || !hasStep(i, step)) {
            return BAD;
        }
        int was = Steps.of(now.state(), i);
        if (was == step) {
            return STATE;
        }
        if (now.room() < 1) {
            return FULL;
        }
        doSet(i, step);
        return was;
    }

    public int crack(int i) {
        if (!isLamp(i)) {
            return BAD;
        }
        if (now.room() < 1) {
            return FULL;
        }
        doCrack(i);
        return Steps.broken(now.state()) >> i & 1;
    }

    public int undo(int n) {
        int undone = now.deeds() - n;
        if (n < 0 || undone < 0) {
            return BAD;
        }
        now.goBack(n);
        return undone;
    }

    public int keep(int k) {
        Past place = keptAt(k);
        if (place == null) {
            return BAD;
        }
        if (!now.isThere()) {
            return STATE;
        }
        place.takeFrom(now);
        return now.deeds();
    }

    public int on(int k) {
        Past place = keptAt(k);
        if (place == null) {
            return BAD;
        }
        if (!place.isThere()) {
            return found(NOTHING);
        }
        now.takeFrom(place);
        return now.deeds();
    }

    // ---- 3 what shows (aside)

    public int touched(int i, int step, int own, int number) {
        if (!isLamp(i) || !hasStep(i, step)) {
            return BAD;
        }
        if (own < 0 || own > 1 || number < 0 || number > MOST_NUMBER) {
            return BAD;
        }
        int state = Steps.with(now.state(), i, step);
        return Steps.of(kinds.behindTouch(state, 1 << i, own << i, number), i);
    }

    public int shows(int r) {
        if (!now.isThere()) {
            return STATE;
        }
        Row buttons = rowAt(r);
        int refusal = refusalOfMissing(buttons);
        if (buttons == null || refusal != GRANTED) {
            return refusal;
        }
        if (buttons.size() > MOST_SHOWN) {
            return found(SIZE);
        }
        int state = now.state();
        for (int i = 0; i < buttons.size(); i++) {
            if (!isLamp(buttons.valueAt(i))) {
                return found(UNLIKE);
            }
            state = kinds.behindPress(state, buttons.valueAt(i), now.number() + i);
        }
        return kinds.showing(state);
    }

    public int most() {
        if (!now.isThere()) {
            return STATE;
        }
        int best = 0;
        int bestShow = -1;
        for (int button = 0; button < LAMPS; button++) {
            int show = Integer.bitCount(showingBehind(button));
            if (show > bestShow) {
                best = button;
                bestShow = show;
            }
        }
        asked = bestShow;
        return best;
    }

    // ---- 4 a picture (aside)

    public int fewest(int picture, int r) {
        int refusal = refusalOfSet(picture);
        if (refusal != GRANTED) {
            return refusal;
        }
        Row row = rowAt(r);
        if (row == null) {
            return BAD;
        }
        for (int presses = 0; presses <= MOST_FEWEST; presses++) {
            if (reaches(kinds, now.state(), now.number(), path, 0, presses, picture)) {
                row.make(presses, 0);
                for (int i = 0; i < presses && i < path.length; i++) {
                    row.change(i, path[i]);
                }
                return presses;
            }
        }
        return NONE;
    }

    public int ways(int picture) {
        int refusal = refusalOfSet(picture);
        if (refusal != GRANTED) {
            return refusal;
        }
        fillBehindSets();
        int many = 0;
        int least = NONE;
        for (int set = 0; set < SETS; set++) {
            if (kinds.showing(behindSets[set]) == picture) {
                least = many == 0 ? set : least;
                many++;
            }
        }
        tellParts(many, 1);
        return tellAsked(least);
    }

    public int sure(int picture) {
        int refusal = refusalOfSet(picture);
        if (refusal != GRANTED) {
            return refusal;
        }
        fillBehindSets();
        boolean any = false;
        int inAll = ALL;
        int inSome = 0;
        for (int set = 0; set < SETS; set++) {
            if (kinds.showing(behindSets[set]) == picture) {
                any = true;
                inAll &= set;
                inSome |= set;
            }
        }
        if (!any) {
            return found(NOUGHT);
        }
        asked = ALL & ~inSome;
        return inAll;
    }

    // ---- 5 which button, which kind

    public int which(int picture) {
        int refusal = refusalOfSet(picture);
        if (refusal != GRANTED) {
            return refusal;
        }
        int buttons = 0;
        for (int button = 0; button < LAMPS; button++) {
            if (showingBehind(button) == picture) {
                buttons |= 1 << button;
            }
        }
        return buttons;
    }

    public int kinds(int i, int r) {
        Row pairs = rowAt(r);
        int refusal = refusalOfPairs(i, pairs);
        return pairs == null || refusal != GRANTED ? refusal : kindsBy(i, pairs);
    }

    public int next(int i, int r) {
        Row pairs = rowAt(r);
        int refusal = refusalOfPairs(i, pairs);
        if (pairs == null || refusal != GRANTED) {
            return refusal;
        }
        int possible = kindsBy(i, pairs);
        if (possible == 0) {
            return NONE;
        }
        int best = 0;
        int bestPart = KINDS + 1;
        for (int button = 0; button < LAMPS; button++) {
            int part = greatestPart(i, possible, button);
            if (part < bestPart) {
                best = button;
                bestPart = part;
            }
        }
        asked = bestPart;
        return best;
    }

    // ---- 6 steps

    public int sums(int v) {
        if (!now.isThere()) {
            return STATE;
        }
        if (v < 0 || v > MOST_SUM) {
            return BAD;
        }
        int state = now.state();
        int many = 0;
        int first = NONE;
        for (int set = 0; set < SETS; set++) {
            if (Steps.total(state, set) == v) {
                first = many == 0 ? set : first;
                many++;
            }
        }
        tellParts(many, 1);
        return tellAsked(first);
    }

    // ---- 7 by turns

    public int duel(int set, int n) {
        int refusal = refusalOfSet(set);
        if (refusal != GRANTED) {
            return refusal;
        }
        if (n < 0 || n > MOST_TURNS) {
            return BAD;
        }
        return tellAsked(wonBy(kinds, now.state(), now.number(), 2 * n, set, -LAMPS, LAMPS));
    }

    // ---- 8 chances, lots

    public int odds(int i, int picture, int p) {
        int refusal = refusalOfSet(picture);
        if (refusal != GRANTED) {
            return refusal;
        }
        if (!isLamp(i) || p < 0 || p > PARTS) {
            return BAD;
        }
        // A LAMP that is not touched shows the same in both, so all nine count alike in twelfths.
        int unlikeTouched = showingBehind(i) ^ picture;
        int unlikeSpared = kinds.showing(now.state()) ^ picture;
        long part = 1;
        long whole = 1;
        for (int lamp = 0; lamp < LAMPS; lamp++) {
            part *= twelfths(~unlikeTouched, ~unlikeSpared, lamp, p);
            whole *= PARTS;
        }
        tellParts(part, whole);
        return 1;
    }

    public int mid(int i, int p) {
        if (!now.isThere()) {
            return STATE;
        }
        if (!isLamp(i) || p < 0 || p > PARTS) {
            return BAD;
        }
        int touched = showingBehind(i);
        int spared = kinds.showing(now.state());
        long part = 0;
        for (int lamp = 0; lamp < LAMPS; lamp++) {
            part += twelfths(touched, spared, lamp, p);
        }
        tellParts(part, PARTS);
        return 1;
    }

    public int lots(int n, int seed) {
        if (!now.isThere()) {
            return STATE;
        }
        if (n < 1 || n > MOST_LOTS || seed < 1 || seed >= LOT_MODULUS) {
            return BAD;
        }
        if (now.room() < n) {
            return FULL;
        }
        long lot = seed;
        for (int deed = 0; deed < n; deed++) {
            lot = lot * LOT_TIMES % LOT_MODULUS;
            doByLot((int) (lot % LAMPS), (int) (lot / 16 % 8));
        }
        return kinds.showing(now.state());
    }

    // ---- 9 what is told

    public int asked() {
        return asked;
    }

    public long upper() {
        return upper;
    }

    public long lower() {
        return lower;
    }

    public int count(int what) {
        return what < 0 || what >= COUNTS ? BAD : counted(what);
    }

    public int finding() {
        return finding;
    }

    public int findings(int f) {
        return f < NOTHING || f > SIZE ? BAD : findings[f];
    }

    public long digest() {
        long h = 17;
        for (int what = 0; what < COUNTS; what++) {
            h = 31 * h + counted(what);
        }
        for (int i = 0; i < LAMPS && now.isThere(); i++) {
            for (int what = 0; what < TOLD_OF_LAMP; what++) {
                h = 31 * h + toldOfLamp(i, what);
            }
        }
        for (int k = 0; k < PLACES; k++) {
            h = 31 * h + (kept[k].isThere() ? kept[k].deeds() : MISSING);
        }
        for (int r = 0; r < ROWS; r++) {
            h = rows[r].mixedInto(h);
        }
        for (int t = 0; t < TEXTS; t++) {
            h = texts[t].mixedInto(h);
        }
        return h;
    }

    // What the calls share: refusals, each GRANTED (0) where there is none

    private int found(int f) {
        finding = f;
        if (f >= NOTHING && f <= SIZE) {
            findings[f]++;
        }
        return FINDING;
    }

    private int refusalOfMissing(Row row) {
        if (row == null) {
            return BAD;
        }
        return row.isThere() ? GRANTED : found(NOTHING);
    }

    private int refusalOfPlace(Row row, int i) {
        int refusal = refusalOfMissing(row);
        if (refusal != GRANTED || row == null) {
            return refusal;
        }
        return row.has(i) ? GRANTED : found(BEYOND);
    }

    private int refusalOfSet(int set) {
        if (!now.isThere()) {
            return STATE;
        }
        return set < 0 || set > ALL ? BAD : GRANTED;
    }

    private int refusalOfPairs(int i, Row pairs) {
        if (!isLamp(i) || pairs == null) {
            return BAD;
        }
        if (!pairs.isThere()) {
            return found(NOTHING);
        }
        if (pairs.size() % 2 != 0 || pairs.size() > MOST_PAIRED) {
            return found(SIZE);
        }
        for (int place = 0; place < pairs.size(); place += 2) {
            int shown = pairs.valueAt(place + 1);
            if (!isLamp(pairs.valueAt(place)) || shown < 0 || shown > 1) {
                return found(UNLIKE);
            }
        }
        return GRANTED;
    }

    // ROWS, TEXTS, LAMPS by their numbers

    private Row rowAt(int r) {
        return r >= 0 && r < ROWS ? rows[r] : null;
    }

    private Row textAt(int t) {
        return t >= 0 && t < TEXTS ? texts[t] : null;
    }

    private Past keptAt(int k) {
        return k >= 0 && k < PLACES ? kept[k] : null;
    }

    private boolean isLamp(int i) {
        return now.isThere() && i >= 0 && i < LAMPS;
    }

    private boolean hasStep(int i, int step) {
        return step >= 0 && step <= Kinds.lastStep(kinds.kindOf(i));
    }

    private static int touchedBy(int button) {
        return button >= 0 && button < TOUCHES.length ? TOUCHES[button] : 0;
    }

    private int makeAnew(Row row, int n, int most, int value) {
        if (row == null || n > most) {
            return BAD;
        }
        if (n < 0) {
            return found(SIZE);
        }
        row.make(n, value);
        return n;
    }

    // What is told

    private int tellAsked(int what) {
        asked = what;
        return 1;
    }

    private void tellParts(long part, long whole) {
        long shared = commonDivisor(part, whole);
        if (shared > 0) {
            upper = part / shared;
            lower = whole / shared;
        }
    }

    private static long commonDivisor(long a, long b) {
        long greater = a;
        long less = b;
        // Each turn at least halves the two within two turns, so 200 are far more than a long needs.
        for (int turn = 0; turn < 200 && less != 0; turn++) {
            long rest = greater % less;
            greater = less;
            less = rest;
        }
        return greater;
    }

    private int toldOfLamp(int i, int what) {
        int state = now.state();
        switch (what) {
            case 0:
                return kinds.kindOf(i);
            case 1:
                return Steps.of(state, i);
            case 2:
                return kinds.showing(state) >> i & 1;
            case 3:
                return Steps.broken(state) >> i & 1;
            case 4:
                return touchedBy(i);
            default:
                return Steps.of(kinds.behindTouch(state, 1 << i, 1 << i, now.number()), i);
        }
    }

    private int counted(int what) {
        switch (what) {
            case 8:
                return countRows(rows, ROWS);
            case 9:
                return countRows(texts, TEXTS);
            case 10:
                return countKept();
            default:
                return now.isThere() ? countedOfWall(what) : 0;
        }
    }

    private int countedOfWall(int what) {
        int state = now.state();
        switch (what) {
            case 0:
                return LAMPS;
            case 1:
                return now.number();
            case 2:
                return now.deeds();
            case 3:
                return kinds.showing(state);
            case 4:
                return Steps.broken(state);
            case 5:
                return Steps.total(state, ALL);
            case 6:
                return Integer.bitCount(kinds.threes);
            default:
                return Integer.bitCount(kinds.shys);
        }
    }

    private static int countRows(Row[] those, int many) {
        int there = 0;
        for (int i = 0; i < many && i < those.length; i++) {
            if (those[i].isThere()) {
                there++;
            }
        }
        return there;
    }

    private int countKept() {
        int there = 0;
        for (int k = 0; k < PLACES; k++) {
            if (kept[k].isThere()) {
                there++;
            }
        }
        return there;
    }

    // DEEDS, for callers that have seen to their room

    private void doPress(int i) {
        now.go(kinds.behindPress(now.state(), i, now.number()), 1);
    }

    private void doSet(int i, int step) {
        now.go(Steps.with(now.state(), i, step), 0);
    }

    private void doCrack(int i) {
        now.go(Steps.withBroken(now.state(), Steps.broken(now.state()) ^ 1 << i), 0);
    }

    private void doByLot(int i, int by) {
        if (by < 6) {
            doPress(i);
        } else if (by == 6) {
            int step = Steps.of(now.state(), i);
            doSet(i, hasStep(i, step + 1) ? step + 1 : 0);
        } else {
            doCrack(i);
        }
    }

    // What would be

    private int showingBehind(int button) {
        return kinds.showing(kinds.behindPress(now.state(), button, now.number()));
    }

    /** Whether a picture SHOWS behind so many PRESSES; the first such BUTTONS stand in the path then. */
    private static boolean reaches(Kinds kinds, int state, int number, int[] path, int done, int presses, int picture) {
        if (done >= presses || done >= path.length) {
            return kinds.showing(state) == picture;
        }
        for (int button = 0; button < LAMPS; button++) {
            path[done] = button;
            int then = kinds.behindPress(state, button, number);
            if (reaches(kinds, then, number + 1, path, done + 1, presses, picture)) {
                return true;
            }
        }
        return false;
    }

    /** How the wall would stand behind each set: its last PRESS is the greatest BUTTON, the rest a set before. */
    private void fillBehindSets() {
        behindSets[0] = now.state();
        for (int button = 0; button < LAMPS; button++) {
            int bit = 1 << button;
            for (int rest = 0; rest < bit; rest++) {
                int number = now.number() + Integer.bitCount(rest);
                behindSets[bit | rest] = kinds.behindPress(behindSets[rest], button, number);
            }
        }
    }

    private int kindsBy(int i, Row pairs) {
        int possible = 0;
        int step = Steps.of(now.state(), i);
        for (int kind = 0; kind < KINDS; kind++) {
            if (step <= Kinds.lastStep(kind) && fits(i, kind, pairs)) {
                possible |= 1 << kind;
            }
        }
        return possible;
    }

    private boolean fits(int i, int kind, Row pairs) {
        for (int place = 0; place < pairs.size(); place += 2) {
            if (shownAs(i, kind, pairs.valueAt(place)) != pairs.valueAt(place + 1)) {
                return false;
            }
        }
        return true;
    }

    /** Whether (1, 0) a LAMP would SHOW behind a BUTTON, were it of a KIND. */
    private int shownAs(int i, int kind, int button) {
        trial.takeFrom(kinds);
        trial.become(i, kind);
        return trial.showing(trial.behindPress(now.state(), button, now.number())) >> i & 1;
    }

    private int greatestPart(int i, int possible, int button) {
        int shown = 0;
        for (int kind = 0; kind < KINDS; kind++) {
            if ((possible >> kind & 1) != 0) {
                shown += shownAs(i, kind, button);
            }
        }
        return Math.max(shown, Integer.bitCount(possible) - shown);
    }

    /** The outcome of the turns left, if it is between low and high: beyond these one of the two would not go. */
    private static int wonBy(Kinds kinds, int state, int number, int left, int set, int low, int high) {
        if (left <= 0) {
            int showing = kinds.showing(state);
            return Integer.bitCount(showing & set) - Integer.bitCount(showing & ~set);
        }
        boolean first = left % 2 == 0;
        int least = low;
        int greatest = high;
        for (int button = 0; button <= LAMPS && least < greatest; button++) {
            boolean none = button == LAMPS;
            int then = none ? state : kinds.behindPress(state, button, number);
            int won = wonBy(kinds, then, none ? number : number + 1, left - 1, set, least, greatest);
            if (first) {
                least = Math.max(least, won);
            } else {
                greatest = Math.min(greatest, won);
            }
        }
        return first ? least : greatest;
    }

    private static int twelfths(int ifTouched, int ifSpared, int lamp, int p) {
        return (ifTouched >> lamp & 1) * (PARTS - p) + (ifSpared >> lamp & 1) * p;
    }

    /** How a wall stands, in one int: LAMPS at STEP 1 (bits 0 to 8), at STEP 2 (9 to 17), BROKEN ones (18 to 26). */
    private static final class Steps {
        private static final int TWOS = 9, BROKEN = 18;

        static int join(int ones, int twos, int broken) {
            return ones | twos << TWOS | broken << BROKEN;
        }

        static int ones(int state) {
            return state & ALL;
        }

        static int twos(int state) {
            return state >> TWOS & ALL;
        }

        static int broken(int state) {
            return state >> BROKEN & ALL;
        }

        static int above(int state) {
            return ones(state) | twos(state);
        }

        static int of(int state, int lamp) {
            return (ones(state) >> lamp & 1) + 2 * (twos(state) >> lamp & 1);
        }

        static int with(int state, int lamp, int step) {
            int others = ~(1 << lamp);
            int ones = ones(state) & others | (step & 1) << lamp;
            int twos = twos(state) & others | (step >> 1 & 1) << lamp;
            return join(ones, twos, broken(state));
        }

        static int withBroken(int state, int broken) {
            return join(ones(state), twos(state), broken);
        }

        static int total(int state, int set) {
            return Integer.bitCount(ones(state) & set) + 2 * Integer.bitCount(twos(state) & set);
        }
    }

    /** The KINDS of a wall's LAMPS as sets of them: SLOW ones are among the THREES too, FALSE ones among the SHY. */
    private static final class Kinds {
        int threes, stucks, shys, slows, falses;

        static boolean isA(int kind, int what) {
            return kind == what || what == LAMP || kind == SLOW && what == THREE || kind == FALSE && what == SHY;
        }

        static int lastStep(int kind) {
            return isA(kind, THREE) ? 2 : 1;
        }

        void takeFrom(Kinds other) {
            threes = other.threes;
            stucks = other.stucks;
            shys = other.shys;
            slows = other.slows;
            falses = other.falses;
        }

        void become(int lamp, int kind) {
            threes = changed(threes, lamp, isA(kind, THREE));
            stucks = changed(stucks, lamp, isA(kind, STUCK));
            shys = changed(shys, lamp, isA(kind, SHY));
            slows = changed(slows, lamp, isA(kind, SLOW));
            falses = changed(falses, lamp, isA(kind, FALSE));
        }

        private static int changed(int set, int lamp, boolean in) {
            return in ? set | 1 << lamp : set & ~(1 << lamp);
        }

        int kindOf(int lamp) {
            int bit = 1 << lamp;
            if ((threes & bit) != 0) {
                return (slows & bit) != 0 ? SLOW : THREE;
            }
            if ((shys & bit) != 0) {
                return (falses & bit) != 0 ? FALSE : SHY;
            }
            return (stucks & bit) != 0 ? STUCK : LAMP;
        }

        int showing(int state) {
            return (Steps.above(state) ^ falses) & ~Steps.broken(state);
        }

        int behindPress(int state, int button, int number) {
            return behindTouch(state, touchedBy(button) & ~Steps.broken(state), 1 << button, number);
        }

        /** The state behind a touch of LAMPS, by the BUTTON that is the own one of those LAMPS. */
        int behindTouch(int state, int lamps, int own, int number) {
            int moved = lamps & ~(shys & own);
            if (number % 2 != 0) {
                moved &= ~slows;
            }
            int ones = Steps.ones(state);
            int twos = Steps.twos(state);
            int going = moved & threes;
            int lit = moved & stucks;
            int turned = moved & ~threes & ~stucks;
            int onesThen = (ones & ~going | going & ~ones & ~twos | lit) ^ turned;
            int twosThen = twos & ~going | going & ones;
            return Steps.join(onesThen, twosThen, Steps.broken(state));
        }
    }

    /** Reads a WALL from a TEXT; one that has a FAULT leaves what is there untouched, as it reads aside. */
    private static final class Reader {
        final Kinds kinds = new Kinds();
        int state = 0;

        int faultOf(Row text) {
            int size = text.size();
            int lamps = 0;
            int place = 0;
            state = 0;
            while (place < size) {
                int letter = text.valueAt(place);
                if (letter == BLANK) {
                    place++;
                    continue;
                }
                int kind = kindBy(letter);
                if (kind == NONE || lamps >= LAMPS) {
                    return place;
                }
                if (place + 1 >= size) {
                    return size;
                }
                int step = text.valueAt(place + 1) - '0';
                if (step < 0 || step > Kinds.lastStep(kind)) {
                    return place + 1;
                }
                kinds.become(lamps, kind);
                state = Steps.with(state, lamps, step);
                lamps++;
                place += 2;
            }
            return lamps < LAMPS ? size : NONE;
        }

        private static int kindBy(int letter) {
            switch (letter) {
                case 'l':
                    return LAMP;
                case 't':
                    return THREE;
                case 'k':
                    return STUCK;
                case 'h':
                    return SHY;
                case 'w':
                    return SLOW;
                case 'f':
                    return FALSE;
                default:
                    return NONE;
            }
        }
    }

    /** How the wall stood ahead of each DEED, and how it stands now, behind the last: to undo is to count back. */
    private static final class Past {
        private final int[] states = new int[MOST_DEEDS + 1];
        private final int[] numbers = new int[MOST_DEEDS + 1];
        private int deeds = MISSING;

        boolean isThere() {
            return deeds >= 0;
        }

        int deeds() {
            return Math.max(deeds, 0);
        }

        int room() {
            return isThere() ? MOST_DEEDS - deeds : 0;
        }

        int state() {
            return deeds >= 0 && deeds < states.length ? states[deeds] : 0;
        }

        int number() {
            return deeds >= 0 && deeds < numbers.length ? numbers[deeds] : 0;
        }

        void forget() {
            deeds = MISSING;
        }

        void begin(int state) {
            deeds = 0;
            states[0] = state;
            numbers[0] = 0;
        }

        void go(int state, int presses) {
            if (room() > 0) {
                int number = number() + presses;
                deeds++;
                states[deeds] = state;
                numbers[deeds] = number;
            }
        }

        void goBack(int n) {
            if (n >= 0 && n <= deeds) {
                deeds = n;
            }
        }

        void takeFrom(Past other) {
            deeds = other.deeds;
            for (int i = 0; i <= deeds && i <= MOST_DEEDS; i++) {
                states[i] = other.states[i];
                numbers[i] = other.numbers[i];
            }
        }
    }

    /** A ROW of ints, or a TEXT's bytes; its room is made once, however often the row is. */
    private static final class Row {
        private final int[] values;
        private int size = MISSING;

        Row(int most) {
            values = new int[Math.max(most, 0)];
        }

        boolean isThere() {
            return size >= 0;
        }

        int size() {
            return Math.max(size, 0);
        }

        boolean has(int i) {
            return i >= 0 && i < size && i < values.length;
        }

        boolean hasRun(int i, int n) {
            return i >= 0 && n >= 0 && (long) i + n <= size;
        }

        int valueAt(int i) {
            return has(i) ? values[i] : 0;
        }

        void change(int i, int value) {
            if (has(i)) {
                values[i] = value;
            }
        }

        void make(int n, int value) {
            if (n >= 0 && n <= values.length) {
                size = n;
                for (int i = 0; i < n; i++) {
                    values[i] = value;
                }
            }
        }

        void remove() {
            size = MISSING;
        }

        void takeRun(Row from, int i, int j, int n) {
            if (from.hasRun(i, n) && hasRun(j, n)) {
                System.arraycopy(from.values, i, values, j, n);
            }
        }

        long total() {
            long sum = 0;
            for (int i = 0; i < size; i++) {
                sum += valueAt(i);
            }
            return sum;
        }

        long mixedInto(long h) {
            long mixed = 31 * h + size;
            for (int i = 0; i < size; i++) {
                mixed = 31 * mixed + valueAt(i);
            }
            return mixed;
        }
    }
}
