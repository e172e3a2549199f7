/**
 * Any call with any numbers, in any order: none throws, what is refused changes nothing but the findings, and no call
 * makes anything that a constructor has not made.
 */
public final class AnyCallTest {
    private static final int[] ODD = {-1, -2, 6, 7, 12, 13, 30, 31, 40, 41, 80, 81, 99, 100, Integer.MAX_VALUE, Integer.MIN_VALUE};
    private static final String[] HOUSES = {"r6 m30 d0-1 d1-2 D2-3 D3-4 d4-5 d5-0 D0-3 d1-4 w2:* w2:* w2:*",
        "r3 m6 D0-1 d1-2 w1:0 w2:*", "r2 m1 D0-1 w1:0w1:0", "r1", "r2 m4 D0-1 D0-1 D0-1 d0-1 w2:01 w1:1", "r4 m12 w1:* w2:0"};
    private static final String[] NIGHTS = {"s0@0", "y1@1 n0@2", "x0@0-0", "y0/0@1", "s2@3 s3@4", "n0@0", "q", "y0/1@2y0/0@0"};
    private static long seed = 46L;

    private static int draw(int n) {
        seed = seed * 6364136223846793005L + 1442695040888963407L;
        return (int) ((seed >>> 33) % n);
    }

    private static int number() {
        return draw(12) == 0 ? ODD[draw(ODD.length)] : draw(4);
    }

    private static int minute() {
        return draw(12) == 0 ? ODD[draw(ODD.length)] : draw(8);
    }

    private static long call(CreakBoards x, int which) {
        int a = number();
        int b = number();
        int c = minute();
        switch (which) {
            case 0: return x.row(a, c);
            case 1: return x.lay(a, c, b);
            case 2: return x.at(a, c);
            case 3: return x.tear(a);
            case 4: return x.copy(a, b, number(), number(), c);
            case 5: return x.mean(a);
            case 6: return x.text(a, c);
            case 7: return x.put(a, c, number() + 48);
            case 8: return x.fault(a, b > 1);
            case 9: return draw(8) == 0 ? x.house(a) : 0;
            case 10: return x.night(a);
            case 11: return x.event(1 + draw(5), a, number(), c);
            case 12: return draw(4) == 0 ? x.back(c) : 0;
            case 13: return x.told(c, a);
            case 14: return x.mark(c, a);
            case 15: return x.door(a, b);
            case 16: return x.walker(a, b);
            case 17: return x.count(c);
            case 18: return x.findings(c);
            default: return search(x, which, a, b, c);
        }
    }

    private static long search(CreakBoards x, int which, int a, int b, int c) {
        switch (which) {
            case 19: return x.could();
            case 20: return x.fewest();
            case 21: return x.ways();
            case 22: return x.rooms(a, c);
            case 23: return x.empty(c);
            case 24: return x.where(a, c);
            case 25: return x.met(a, b);
            case 26: return x.still(a, c);
            case 27: return x.judge(a, b);
            case 28: return x.way(a, b);
            case 29: return x.whose(c);
            case 30: return x.same(c);
            case 31: return x.passes(a);
            case 32: return x.third();
            case 33: return x.chance(a, c);
            case 34: return x.likely(a, c);
            case 35: return x.cheapest(a, b);
            case 36: return x.settle(a, b, number());
            case 37: return x.stuck();
            default: return x.quarrel();
        }
    }

    private static final int CALLS = 39;

    private static long digestOfTold(CreakBoards x) {
        return ((x.digest() * 31 + x.asked()) * 31 + x.many()) * 31 + x.upper() * 31 + x.lower();
    }

    private static long findings(CreakBoards x) {
        long sum = 0;
        for (int f = 1; f <= 5; f++) sum += x.findings(f);
        return sum;
    }

    private static boolean mayRefuse(int which) {
        // put() answers 1000 more, mark(), third(), still(), met() and the like no number below 0 but a refusal or NONE.
        return which != 18 && which != 17;
    }

    private static void night(int n) {
        CreakBoards x = Make.house(HOUSES[draw(HOUSES.length)]);
        for (int i = draw(3); i > 0; i--) {
            Make.text(x, 1, NIGHTS[draw(NIGHTS.length)]);
            x.night(1);
        }
        for (int i = 0; i < 150; i++) {
            int which = draw(CALLS);
            long told = digestOfTold(x);
            long found = findings(x);
            long answer = call(x, which);
            if (mayRefuse(which) && answer < 0) Check.due("night " + n + " refused call " + which, digestOfTold(x), told);
            if (mayRefuse(which)) Check.due("night " + n + " findings of call " + which, findings(x) - found, answer == -3 ? 1 : 0);
            if (answer < 0) {
                Check.yes("night " + n + " call " + which + " answers " + answer,
                    answer == -1 || answer == -2 || answer == -3 || answer == -4 || answer == -6 || answer == -9);
            }
        }
    }

    /** The whole of one object, counted: each field and element; 512 of them must go into the room. */
    private static long sizeOf(Object one, java.util.IdentityHashMap<Object, Object> known) throws Exception {
        if (one == null || known.put(one, one) != null) return 0;
        if (one.getClass().isArray()) {
            int length = java.lang.reflect.Array.getLength(one);
            long sum = length;
            if (one instanceof Object[]) for (Object part : (Object[]) one) sum += sizeOf(part, known);
            return sum;
        }
        long sum = 0;
        for (java.lang.reflect.Field f : one.getClass().getDeclaredFields()) {
            if (java.lang.reflect.Modifier.isStatic(f.getModifiers())) continue;
            sum++;
            f.setAccessible(true);
            if (!f.getType().isPrimitive()) sum += sizeOf(f.get(one), known);
        }
        return sum;
    }

    private static long madeSoFar() {
        return ((com.sun.management.ThreadMXBean) java.lang.management.ManagementFactory.getThreadMXBean()).getCurrentThreadAllocatedBytes();
    }

    private static void roomOfCalls() throws Exception {
        java.util.IdentityHashMap<Object, Object> known = new java.util.IdentityHashMap<>();
        CreakBoards x = Make.night(HOUSES[0], "s2@3 s3@4 y0@20 y1/2@29");
        long size = sizeOf(x, known);
        System.out.println("one object: " + known.size() + " objects and arrays, " + size + " fields and elements");
        Check.yes("512 objects go into the room", size * 512 < 7300000L && known.size() * 512L < 600000L);
        long before = 0;
        for (int round = 0; round < 3; round++) {
            before = madeSoFar();
            for (int i = 0; i < 400; i++) call(x, i % CALLS);
        }
        Check.yes("calls make nothing", madeSoFar() - before < 4000L);
    }

    public static void main(String[] args) throws Exception {
        for (int n = 0; n < 400; n++) night(n);
        roomOfCalls();
        Check.end("AnyCallTest");
    }
}
