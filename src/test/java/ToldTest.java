/** Promises 39 to 46: asked, many, upper, lower, count, finding, findings, digest. */
public final class ToldTest {
    private static void dueAsked(CreakBoards x, String call, int want) {
        Check.due("asked() behind " + call, x.asked(), want);
    }

    /** Which calls tell by asked(), and that no others do. */
    private static void asked() {
        CreakBoards x = Make.house("r3 m6 D0-1 d1-2 w1:0 w2:12");
        dueAsked(x, "house()", 0);
        x.row(0, 2);
        x.lay(0, 0, 41);
        dueAsked(x, "lay()", 0);
        x.at(0, 0);
        dueAsked(x, "at()", 41);
        x.lay(0, 0, 44);
        dueAsked(x, "lay()", 41);
        x.mean(0);
        dueAsked(x, "mean()", 22);
        x.copy(0, 0, 0, 1, 1);
        x.event(2, 2, 0, 5);
        dueAsked(x, "event()", 22);
        x.told(0, 3);
        dueAsked(x, "told()", 5);
        x.mark(0, 2);
        dueAsked(x, "mark()", 5);
        x.door(1, 1);
        dueAsked(x, "door()", 2);
        x.walker(1, 1);
        dueAsked(x, "walker()", 6);
        x.could();
        x.fewest();
        x.ways();
        x.where(0, 0);
        x.still(0, 1);
        x.way(1, 1);
        x.judge(1, 1);
        x.chance(0, 0);
        x.likely(0, 0);
        x.stuck();
        x.quarrel();
        x.count(3);
        x.findings(1);
        x.digest();
        x.tear(1);
        dueAsked(x, "calls that don't tell so", 6);
        x.rooms(0, 0);
        dueAsked(x, "rooms()", 1);
        x.empty(5);
        dueAsked(x, "empty()", 5);
        x.met(0, 1);
        dueAsked(x, "met(), never", -9);
        x.same(0);
        dueAsked(x, "same()", 2);
        x.passes(1);
        dueAsked(x, "passes()", 0);
        x.third();
        dueAsked(x, "third()", 6);
        x.event(4, 0, 0, 4);
        x.could();
        dueAsked(x, "could() 0", 4);
        x.rooms(0, 0);
        x.third();
        x.chance(0, 0);
        x.whose(0);
        dueAsked(x, "what is refused", 4);
        x.stuck();
        x.quarrel();
        dueAsked(x, "stuck(), quarrel()", 4);
        x.cheapest(7, 1);
        dueAsked(x, "cheapest()", 1);
        x.settle(7, 1, 50);
        dueAsked(x, "settle()", 57);
        x.back(0);
        x.event(1, 0, 0, 3);
        x.whose(0);
        dueAsked(x, "whose()", 0);
    }

    private static void counts() {
        CreakBoards x = Make.night("r6 m29 d0-1 D1-2 d4-5 w1:0 w2:* w1:5", "y0@1 n3@1 y0/1@2 x2@3-4 s1@0");
        x.row(5, 0);
        x.row(2, 3);
        x.row(1, 40);
        x.tear(2);
        int[] counts = {6, 3, 3, 29, 5, 2, 2, 2};
        for (int what = 0; what < 8; what++) Check.due("count(" + what + ")", x.count(what), counts[what]);
        for (int what : new int[] {-1, 8, Integer.MAX_VALUE, Integer.MIN_VALUE}) Check.due("count(" + what + ")", x.count(what), -1);
    }

    private static void findings() {
        CreakBoards x = new CreakBoards();
        x.at(0, 0);
        Check.due("finding() NOTHING", x.finding(), 1);
        x.row(0, 1);
        Check.due("finding() stays", x.finding(), 1);
        x.at(0, 1);
        x.at(0, -1);
        Check.due("finding() BEYOND", x.finding(), 2);
        x.event(2, 0, 0, 0);
        x.mark(0, 1);
        x.mark(0, 3);
        x.whose(0);
        Check.due("finding() UNLIKE", x.finding(), 3);
        x.empty(0);
        x.chance(0, 0);
        x.third();
        x.same(0);
        Check.due("finding() NOUGHT", x.finding(), 4);
        for (int i = 0; i < 5; i++) x.text(0, -1 - i);
        Check.due("finding() SIZE", x.finding(), 5);
        x.at(9, 9);
        x.cheapest(1, 1);
        x.text(0, 1);
        x.house(0);
        Check.due("finding() of BAD, STATE, NONE", x.finding(), 5);
        int[] many = {1, 2, 3, 4, 5};
        for (int f = 1; f <= 5; f++) Check.due("findings(" + f + ")", x.findings(f), many[f - 1]);
        for (int f : new int[] {0, 6, -1, Integer.MAX_VALUE, Integer.MIN_VALUE}) Check.due("findings(" + f + ")", x.findings(f), -1);
    }

    private static void manyAndFractions() {
        CreakBoards x = Make.house("r2 m3 d0-1 w1:0");
        x.ways();
        Check.due("many() of ways()", x.many(), 8);
        x.chance(1, 3);
        Check.due("upper()", x.upper(), 1);
        Check.due("lower()", x.lower(), 2);
        x.event(5, 0, 2, 0);
        Check.due("many() stays", x.many(), 8);
        x.likely(0, 3);
        Check.due("upper() of likely()", x.upper(), 1);
        Check.due("lower() of likely()", x.lower(), 1);
        x.chance(1, 3);
        Check.due("upper() 0", x.upper(), 0);
        Check.due("lower() 1", x.lower(), 1);
        x.event(4, 1, 0, 2);
        x.event(4, 0, 0, 1);
        x.ways();
        Check.due("many() of none", x.many(), 0);
        x.quarrel();
        Check.due("many() of quarrel()", x.many(), 5);
        x.back(0);
        x.quarrel();
        Check.due("many() behind STATE", x.many(), 5);
        x.chance(0, 3);
        Check.due("upper() 1 of 2", x.upper(), 1);
        Check.due("lower() 1 of 2", x.lower(), 2);
    }

    private static long mix(long h, long... values) {
        for (long v : values) h = 31 * h + v;
        return h;
    }

    private static void digest() {
        CreakBoards x = new CreakBoards();
        long missing = mix(mix(17, 1, 0, 0, 12, 0, 0, 0, 0), -1, -1, -1, -1, -1, -1, -1, -1, -1, -1);
        Check.due("digest() of a new object", x.digest(), missing);
        x = Make.house("r2 m5 D1-0 w2:1");
        x.event(5, 0, 4, 2);
        x.event(3, 1, 0, 5);
        x.row(1, 2);
        x.lay(1, 0, -7);
        x.lay(1, 1, Integer.MIN_VALUE);
        x.row(4, 0);
        x.text(0, 1);
        x.text(2, 2);
        x.put(2, 1, 200);
        x.walker(0, 0);
        long h = mix(17, 2, 1, 1, 5, 2, 1, 2, 2);
        h = mix(h, 0, 1, 1, 2, 2);
        h = mix(h, 5, 0, 4, 2, 3, 1, 0, 5);
        h = mix(h, -1, 2, -7, Integer.MIN_VALUE, -1, -1, 0, -1);
        h = mix(h, 1, 32, -1, 2, 32, -56, -1);
        Check.due("digest()", x.digest(), h);
        Check.due("digest() asks nothing", x.asked(), 2);
        x.could();
        x.way(0, 4);
        Check.yes("digest() of a walk", x.digest() != h);
        x.row(4, 0);
        Check.due("digest() again", x.digest(), h);
    }

    public static void main(String[] args) {
        asked();
        counts();
        findings();
        manyAndFractions();
        digest();
        Check.end("ToldTest");
    }
}
