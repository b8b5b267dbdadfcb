import java.lang.reflect.InvocationTargetException;
import java.lang.reflect.Method;
import java.nio.file.Path;
import java.util.ArrayList;
import java.util.Arrays;
import java.util.HashMap;
import java.util.List;
import java.util.Map;

/** One sentence of the document at a time: says() quotes it, and every answer behind that is told with it. */
final class Edge {
    static final int LEAST = Integer.MIN_VALUE, GREATEST = Integer.MAX_VALUE;
    private static final Document DOCUMENT = new Document(Path.of("../shared/DOC.md"));
    private static final Map<String, Method> CALLS = new HashMap<>();
    private static String sentence = "";

    static {
        for (Method method : TouchedLamps.class.getMethods()) {
            CALLS.put(method.getName(), method);
        }
    }

    private Edge() {
    }

    static void says(int promise, String words) {
        sentence = Document.name(promise) + " '" + words + "': ";
        Due.due(sentence + "the document says so", DOCUMENT.quote(promise, words) ? 1 : 0, 1);
    }

    /** Each sentence has a test if each word of the document has been quoted by one. */
    static void allIsQuoted() {
        for (int part = 0; part < Document.PARTS; part++) {
            String rest = DOCUMENT.unquoted(part);
            Due.due(Document.name(part) + " is there", DOCUMENT.isThere(part) ? 1 : 0, 1);
            Due.due(Document.name(part) + " has words that no test quotes: " + rest, rest.length(), 0);
        }
    }

    static long call(TouchedLamps x, String name, int... args) {
        Object[] boxed = Arrays.stream(args).boxed().toArray();
        try {
            return ((Number) CALLS.get(name).invoke(x, boxed)).longValue();
        } catch (IllegalAccessException | InvocationTargetException e) {
            throw new IllegalStateException(told(name, args), e);
        }
    }

    static String told(String name, int... args) {
        String inside = Arrays.toString(args);
        return name + "(" + inside.substring(1, inside.length() - 1) + ")";
    }

    static void due(String what, long got, long want) {
        Due.due(sentence + what, got, want);
    }

    static void answers(TouchedLamps x, long want, String name, int... args) {
        due(told(name, args), call(x, name, args), want);
    }

    /** A call that is granted and tells a number by asked(). */
    static void asks(TouchedLamps x, long want, long wantAsked, String name, int... args) {
        answers(x, want, name, args);
        due(told(name, args) + ", asked()", x.asked(), wantAsked);
    }

    /** A call that is granted and tells a number by upper(), lower(). */
    static void parts(TouchedLamps x, long wantUpper, long wantLower, String name, int... args) {
        answers(x, 1, name, args);
        due(told(name, args) + ", upper()", x.upper(), wantUpper);
        due(told(name, args) + ", lower()", x.lower(), wantLower);
    }

    static void bad(Scene scene, String name, int... args) {
        refused(scene, Due.BAD, name, args);
    }

    static void state(Scene scene, String name, int... args) {
        refused(scene, Due.STATE, name, args);
    }

    static void full(Scene scene, String name, int... args) {
        refused(scene, Due.FULL, name, args);
    }

    /** A call that is refused without a FINDING, or answers NONE: all is as with a twin that has not been asked. */
    static void refused(Scene scene, int refusal, String name, int... args) {
        TouchedLamps x = scene.make();
        TouchedLamps twin = scene.make();
        answers(x, refusal, name, args);
        sameFindings(told(name, args), x, twin, 0);
        sameTold(told(name, args), x, twin);
        sameElse(told(name, args), x, twin);
    }

    /** A call that is refused by a FINDING: it is told, once more, and all else is as with a twin. */
    static void finds(Scene scene, int finding, String name, int... args) {
        TouchedLamps x = scene.make();
        TouchedLamps twin = scene.make();
        answers(x, Due.FINDING, name, args);
        sameFindings(told(name, args), x, twin, finding);
        sameTold(told(name, args), x, twin);
        sameElse(told(name, args), x, twin);
    }

    /** A call that is granted, and leaves all but what it tells as it was. */
    static void aside(Scene scene, long want, String name, int... args) {
        TouchedLamps x = scene.make();
        TouchedLamps twin = scene.make();
        answers(x, want, name, args);
        sameFindings(told(name, args), x, twin, 0);
        sameElse(told(name, args), x, twin);
    }

    /** A call that is not refused, and leaves asked() (and upper(), lower(), if it may not tell these) as it was. */
    static void tellsNothing(Scene scene, boolean orParts, String name, int... args) {
        TouchedLamps x = scene.make();
        TouchedLamps twin = scene.make();
        long answer = call(x, name, args);
        due(told(name, args) + " is granted: " + answer, answer >= 0 || answer == Due.NONE ? 1 : 0, 1);
        due(told(name, args) + ", asked()", x.asked(), twin.asked());
        if (orParts) {
            due(told(name, args) + ", upper()", x.upper(), twin.upper());
            due(told(name, args) + ", lower()", x.lower(), twin.lower());
        }
    }

    private static void sameFindings(String call, TouchedLamps x, TouchedLamps twin, int found) {
        due(call + ", finding()", x.finding(), found == 0 ? twin.finding() : found);
        for (int f = 1; f <= 5; f++) {
            due(call + ", findings(" + f + ")", x.findings(f), twin.findings(f) + (f == found ? 1 : 0));
        }
    }

    private static void sameTold(String call, TouchedLamps x, TouchedLamps twin) {
        due(call + ", asked() behind it", x.asked(), twin.asked());
        due(call + ", upper() behind it", x.upper(), twin.upper());
        due(call + ", lower() behind it", x.lower(), twin.lower());
    }

    /** The digest has no DEEDS in it, nor what a kept WALL is: all are undone, one by one, all WALLS gone on from. */
    static void sameElse(String call, TouchedLamps x, TouchedLamps twin) {
        List<Long> got = whole(x);
        List<Long> want = whole(twin);
        due(call + ", all else behind it", got.equals(want) ? 1 : 0, 1);
    }

    private static List<Long> whole(TouchedLamps x) {
        List<Long> seen = new ArrayList<>();
        undoAll(x, seen);
        for (int k = 0; k < 3; k++) {
            seen.add((long) x.on(k));
            undoAll(x, seen);
        }
        return seen;
    }

    private static void undoAll(TouchedLamps x, List<Long> seen) {
        seen.add(x.digest());
        for (int n = x.count(2) - 1; n >= 0; n--) {
            seen.add((long) x.undo(n));
            seen.add(x.digest());
        }
    }
}
