import java.util.ArrayList;
import java.util.List;

/**
 * Boundary cases, each named by the promise and the sentence that it stands for. A case in which nothing was looked at
 * is wrong, too.
 */
final class Edge {
    static final int MAX = Integer.MAX_VALUE, MIN = Integer.MIN_VALUE;
    static final int BAD = -1, FULL = -2, STATE = -4, SPENT = -6, NONE = -9;
    static final int NOTHING = 1, BEYOND = 2, UNLIKE = 3, NOUGHT = 4, SIZE = 5;

    interface Call {
        int answer();
    }

    private static String name = "";
    private static int cases = 0;
    private static int looks = 0;
    private static final List<String> idle = new ArrayList<>();

    private Edge() {
    }

    /** Begins a case: the promise (or the part of Terms) and what its sentence says. */
    static void of(String sentence) {
        if (cases > 0 && looks == 0) idle.add(name);
        name = sentence;
        cases++;
        looks = 0;
    }

    static void due(String call, long got, long want) {
        looks++;
        Check.due("[" + name + "] " + call, got, want);
    }

    static void yes(String what, boolean holds) {
        due(what, holds ? 1 : 0, 1);
    }

    /** A call that tells by asked(). */
    static void tells(CreakBoards x, String call, int got, int want, int asked) {
        due(call, got, want);
        due(call + " asked()", x.asked(), asked);
    }

    /** A call that answers a number, and leaves what asked() told. */
    static void plain(CreakBoards x, String call, int want, Call made) {
        int asked = x.asked();
        due(call, made.answer(), want);
        due(call + " leaves asked()", x.asked(), asked);
    }

    /** A call that answers BAD, FULL, STATE, SPENT or NONE: it changes nothing that can be told, no finding either. */
    static void refused(CreakBoards x, String call, int want, Call made) {
        long[] before = told(x);
        due(call, made.answer(), want);
        same(call, before, told(x));
    }

    /** A call that answers FINDING: it changes nothing but finding(), findings(). */
    static void found(CreakBoards x, String call, int finding, Call made) {
        long[] before = told(x);
        due(call, made.answer(), -3);
        due(call + " finding()", x.finding(), finding);
        before[0] = finding;
        before[finding]++;
        same(call, before, told(x));
    }

    private static long[] told(CreakBoards x) {
        long[] all = new long[11 + 8];
        all[0] = x.finding();
        for (int f = 1; f <= 5; f++) all[f] = x.findings(f);
        all[6] = x.digest();
        all[7] = x.asked();
        all[8] = x.many();
        all[9] = x.upper();
        all[10] = x.lower();
        for (int what = 0; what < 8; what++) all[11 + what] = x.count(what);
        return all;
    }

    private static final String[] TOLD = {"finding()", "findings(1)", "findings(2)", "findings(3)", "findings(4)", "findings(5)",
        "digest()", "asked()", "many()", "upper()", "lower()", "count(0)", "count(1)", "count(2)", "count(3)", "count(4)", "count(5)",
        "count(6)", "count(7)"};

    private static void same(String call, long[] before, long[] behind) {
        for (int i = 0; i < TOLD.length; i++) due(call + ": " + TOLD[i] + " behind it", behind[i], before[i]);
    }

    /** Numbers that none of 0 to n less 1 is: just beyond, and far. */
    static int[] beyond(int n) {
        return new int[] {-1, n, n + 1, n + 32, n + 256, MAX, MIN};
    }

    static void end(String test) {
        if (looks == 0) idle.add(name);
        for (String one : idle) Check.yes("something was looked at in [" + one + "]", false);
        System.out.println(test + ": " + cases + " boundary cases");
        cases = 0;
        Check.end(test);
    }
}
