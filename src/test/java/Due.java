/** What the tests share: answers that are due, TEXTS written, WALLS made. */
final class Due {
    static final int BAD = -1, FULL = -2, FINDING = -3, STATE = -4, NONE = -9;
    static final int NOTHING = 1, BEYOND = 2, UNLIKE = 3, NOUGHT = 4, SIZE = 5;
    static final String PLAIN = "l0l0l0l0l0l0l0l0l0";
    static final String MIXED = "l0t2k0h1w1f0l1t0 l0";

    private static int wrong = 0;
    private static int asked = 0;

    private Due() {
    }

    static void due(String what, long got, long want) {
        asked++;
        if (got != want) {
            wrong++;
            System.out.println("  " + what + " answered " + got + ", due is " + want);
        }
    }

    /** A call that is refused by a FINDING: which, once more, and nothing else is otherwise. */
    static void finds(TouchedLamps x, String what, java.util.function.IntSupplier call, int finding) {
        int before = x.findings(finding);
        long digest = x.digest();
        int told = x.asked();
        due(what, call.getAsInt(), FINDING);
        due(what + ": finding()", x.finding(), finding);
        due(what + ": findings(" + finding + ")", x.findings(finding), before + 1);
        due(what + ": digest()", x.digest(), digest);
        due(what + ": asked()", x.asked(), told);
    }

    /** A call that is refused otherwise: no FINDING is told, and nothing is otherwise. */
    static void refuses(TouchedLamps x, String what, java.util.function.IntSupplier call, int refusal) {
        long digest = x.digest();
        long findings = allFindings(x);
        int told = x.asked();
        long upper = x.upper();
        long lower = x.lower();
        due(what, call.getAsInt(), refusal);
        due(what + ": findings", allFindings(x), findings);
        due(what + ": digest()", x.digest(), digest);
        due(what + ": asked()", x.asked(), told);
        due(what + ": upper()", x.upper(), upper);
        due(what + ": lower()", x.lower(), lower);
    }

    static long allFindings(TouchedLamps x) {
        long all = x.finding();
        for (int f = 1; f <= 5; f++) {
            all = all * 1000 + x.findings(f);
        }
        return all;
    }

    static void tells(TouchedLamps x, String what, int answer, int wantAnswer, int wantAsked) {
        due(what, answer, wantAnswer);
        due(what + ": asked()", x.asked(), wantAsked);
    }

    static void tellsParts(TouchedLamps x, String what, int answer, long wantUpper, long wantLower) {
        due(what, answer, 1);
        due(what + ": upper()", x.upper(), wantUpper);
        due(what + ": lower()", x.lower(), wantLower);
    }

    static void write(TouchedLamps x, int t, String text) {
        x.text(t, text.length());
        for (int i = 0; i < text.length(); i++) {
            x.put(t, i, text.charAt(i));
        }
    }

    static TouchedLamps walled(String text) {
        TouchedLamps x = new TouchedLamps();
        write(x, 0, text);
        due("wall of " + text, x.wall(0), 9);
        return x;
    }

    static void lay(TouchedLamps x, int r, int... values) {
        x.row(r, values.length);
        for (int i = 0; i < values.length; i++) {
            x.lay(r, i, values[i]);
        }
    }

    static int told(TouchedLamps x, int i, int what) {
        due("lamp(" + i + ", " + what + ")", x.lamp(i, what), 1);
        return x.asked();
    }

    static void end() {
        System.out.println("  " + asked + " answers, " + wrong + " not as due");
        if (wrong != 0 || asked == 0) {
            System.exit(1);
        }
    }
}
