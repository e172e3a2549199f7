/** Promises 29 to 34: whose, same, passes, third, chance, likely. */
public final class ChanceTest {
    private static void dueAsked(CreakBoards x, String call, long got, long want, long asked) {
        Check.due(call, got, want);
        Check.due(call + " asked()", x.asked(), asked);
    }

    private static void duePart(CreakBoards x, String call, long got, long want, long upper, long lower) {
        Check.due(call, got, want);
        Check.due(call + " upper()", x.upper(), upper);
        Check.due(call + " lower()", x.lower(), lower);
    }

    private static void dueNought(CreakBoards x, String call, long got) {
        Check.due(call, got, -3);
        Check.due(call + " finding()", x.finding(), 4);
        x.row(0, -1);
    }

    private static void whose() {
        CreakBoards x = Make.night("r3 m4 D0-1 d0-1 D1-2 w1:0 w1:01 w1:2", "s0@0 y0@2 s0@1");
        dueAsked(x, "whose(0)", x.whose(0), 3, 0);
        dueAsked(x, "whose(2)", x.whose(2), 3, 0);
        x.event(3, 1, 0, 1);
        x.event(5, 1, 1, 0);
        dueAsked(x, "whose(0) must", x.whose(0), 3, 1);
        x.event(1, 2, 0, 3);
        dueAsked(x, "whose(5)", x.whose(5), 7, 0);
        Check.due("whose(1), SEEN", x.whose(1), -3);
        Check.due("whose finding() UNLIKE", x.finding(), 3);
        Check.due("whose(4), SHUT", x.whose(4), -3);
        for (int e : new int[] {-1, 6, 24, Integer.MAX_VALUE}) Check.due("whose(" + e + ")", x.whose(e), -1);
        Check.due("asked() stays", x.asked(), 0);
        x.event(3, 2, 0, 0);
        Check.due("whose(1), UNLIKE ahead of NOUGHT", x.whose(1) + 10 * x.finding(), 27);
        dueNought(x, "whose(0) NOUGHT", x.whose(0));
    }

    private static void same() {
        CreakBoards x = Make.night("r3 m4 d0-1 d1-2 w1:0 w1:1 w2:2", "y1@1 y2/2@4 y0@0 y1@4 n0@0");
        dueNought(x, "same(0) NOUGHT", x.same(0));
        Check.due("same(4), UNLIKE ahead of NOUGHT", x.same(4) + 10 * x.finding(), 27);
        x.back(4);
        dueAsked(x, "same(0)", x.same(0), 7, 0);
        dueAsked(x, "same(1), THIS", x.same(1), 7, 4);
        dueAsked(x, "same(2)", x.same(2), 1, 1);
        dueAsked(x, "same(3)", x.same(3), 3, 0);
        x.event(1, 0, 0, 0);
        x.event(4, 2, 0, 0);
        Check.due("same(4), BARE", x.same(4), -3);
        Check.due("same finding() UNLIKE", x.finding(), 3);
        for (int e : new int[] {-1, 5, 24, Integer.MIN_VALUE}) Check.due("same(" + e + ")", x.same(e), -1);
    }

    private static void passesAndThird() {
        CreakBoards x = Make.night("r3 m6 D0-1 d1-2 d1-2 d0-2 w1:0", "s0@1 x1@2-5 x3@0-5 y2@4");
        dueAsked(x, "passes(0)", x.passes(0), 1, 1);
        dueAsked(x, "passes(1)", x.passes(1), 0, 0);
        dueAsked(x, "passes(2)", x.passes(2), 4, 0);
        dueAsked(x, "passes(3)", x.passes(3), 0, 0);
        dueAsked(x, "third()", x.third(), 2, 4);
        x.event(4, 1, 0, 3);
        dueAsked(x, "passes(2): must at 2", x.passes(2), 3, 1);
        dueAsked(x, "third(): less what must", x.third(), 2, 2);
        for (int d : new int[] {-1, 4, 8, Integer.MAX_VALUE}) Check.due("passes(" + d + ")", x.passes(d), -1);
        Check.due("asked() stays", x.asked(), 2);
        x.event(4, 2, 0, 4);
        dueNought(x, "passes(0) NOUGHT", x.passes(0));
        dueNought(x, "third() NOUGHT", x.third());
        Check.due("passes(4), BAD ahead of NOUGHT", x.passes(4), -1);
        x = Make.house("r2 m5 D0-1 w1:0");
        x.walker(0, 0);
        dueAsked(x, "third() NONE", x.third(), -9, 1);
        x.event(2, 1, 0, 0);
        dueNought(x, "third() NOUGHT ahead of NONE", x.third());
        x = Make.house("r4 m5 D0-1 d2-3 d0-1 d0-1 w1:0");
        dueAsked(x, "third(): of alike ones the first", x.third(), 2, 5);
        x = Make.house("r4 m5 D0-1 d2-3 w1:0");
        dueAsked(x, "third(): passed never", x.third(), 1, 0);
        x = Make.night("r2 m5 d0-1 w1:0 w1:1", "n1@1");
        dueAsked(x, "passes(0) of two", x.passes(0), 5, 1);
    }

    private static void chance() {
        CreakBoards x = Make.house("r3 m4 d0-1 d0-1 w1:0");
        duePart(x, "chance(0, 0)", x.chance(0, 0), 1, 1, 1);
        duePart(x, "chance(0, 1)", x.chance(0, 1), 1, 1, 3);
        duePart(x, "chance(1, 1)", x.chance(1, 1), 1, 2, 3);
        duePart(x, "chance(1, 4)", x.chance(1, 4), 1, 40, 81);
        duePart(x, "chance(2, 4)", x.chance(2, 4), 1, 0, 1);
        duePart(x, "chance(1, 4)", x.chance(1, 4), 1, 40, 81);
        x.event(2, 1, 0, 4);
        duePart(x, "chance(1, 2) of a night", x.chance(1, 2), 1, 1, 2);
        duePart(x, "chance(1, 1) of a night", x.chance(1, 1), 1, 13, 20);
        int[][] bad = {{-1, 0}, {3, 0}, {0, -1}, {0, 5}, {Integer.MAX_VALUE, 0}, {0, Integer.MIN_VALUE}};
        for (int[] c : bad) {
            Check.due("chance(" + c[0] + ", " + c[1] + ")", x.chance(c[0], c[1]), -1);
            Check.due("likely(" + c[0] + ", " + c[1] + ")", x.likely(c[0], c[1]), -1);
        }
        x.event(4, 1, 0, 4);
        dueNought(x, "chance(0, 0) NOUGHT", x.chance(0, 0));
        dueNought(x, "likely(0, 0) NOUGHT", x.likely(0, 0));
        Check.due("upper() stays", x.upper(), 13);
        Check.due("lower() stays", x.lower(), 20);
        x = Make.house("r2 m3 d0-1 w1:0 w1:0");
        duePart(x, "chance of somebody of two", x.chance(1, 1), 1, 3, 4);
        x = new CreakBoards();
        duePart(x, "chance of nobody", x.chance(0, 3), 1, 0, 1);
    }

    private static void likely() {
        CreakBoards x = Make.house("r4 m4 d1-2 d1-3 w1:12 w1:2 w2:0");
        duePart(x, "likely(0, 0)", x.likely(0, 0), 1, 41, 70);
        duePart(x, "likely(1, 0)", x.likely(1, 0), 2, 1, 1);
        duePart(x, "likely(2, 3)", x.likely(2, 3), 0, 1, 1);
        Check.due("likely(3, 0)", x.likely(3, 0), -1);
        x = Make.house("r2 m4 d0-1 w1:1");
        duePart(x, "likely(0, 2): of alike ones the least", x.likely(0, 2), 0, 1, 2);
        x.event(3, 1, 0, 3);
        duePart(x, "likely(0, 2) of a night", x.likely(0, 2), 0, 1, 2);
        x.event(5, 0, 2, 2);
        duePart(x, "likely(0, 2) of a shut door", x.likely(0, 2), 1, 1, 1);
        duePart(x, "likely(0, 1) of a shut door", x.likely(0, 1), 0, 1, 2);
    }

    private static void spent() {
        CreakBoards x = Make.house("r5 m15 d0-1d0-1d0-1d0-1d2-3 w1:0 w1:2 w1:14");
        Check.due("chance SPENT", x.chance(0, 0), -6);
        Check.due("likely SPENT", x.likely(0, 0), -6);
        Check.due("lower() stays", x.lower(), 1);
        Check.due("chance(5, 0), BAD ahead of SPENT", x.chance(5, 0), -1);
        x.event(3, 4, 2, 0);
        duePart(x, "likely of just as many as may be", x.likely(0, 15), 1, 15265963516L, 30517578125L);
        duePart(x, "chance of just as many as may be", x.chance(0, 15), 1, 15251614609L, 30517578125L);
        duePart(x, "chance at the beginning", x.chance(0, 0), 1, 1, 1);
        duePart(x, "chance in the midst", x.chance(0, 7), 1, 37969, 78125);
        x = Make.house("r2 m30 d0-1d0-1d0-1d0-1d0-1d0-1d0-1d0-1 w1:*w1:*w1:*");
        for (int t = 0; t <= 30; t++) Check.due("chance(0, " + t + ") SPENT", x.chance(0, t), -6);
        CreakBoards y = Make.house("r6 m30 d0-1d1-2d2-3d3-4d4-5d5-0d0-3d1-4 w2:0w1:*w2:*");
        for (int t = 0; t <= 30; t++) Check.due("likely(0, " + t + ") SPENT", y.likely(0, t), -6);
        CreakBoards z = Make.house("r2 m30 d0-1 w1:0 w1:1");
        for (int t = 0; t <= 30; t++) Check.due("chance(1, " + t + ") SPENT", z.chance(1, t), -6);
        Check.due("finding() of SPENT", x.finding(), 0);
    }

    public static void main(String[] args) {
        whose();
        same();
        passesAndThird();
        chance();
        likely();
        spent();
        Check.end("ChanceTest");
    }
}
