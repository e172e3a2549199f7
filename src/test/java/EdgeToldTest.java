/** Boundary cases of promises 39 to 46, and of ANSWERS and FINDINGS: what is told, before any call and behind each. */
public final class EdgeToldTest {
    private static CreakBoards x;

    private static void before() {
        Edge.of("39 to 42, 44, 45: the numbers told before any was told");
        x = new CreakBoards();
        Edge.due("asked()", x.asked(), 0);
        Edge.due("many()", x.many(), 0);
        Edge.due("upper()", x.upper(), 0);
        Edge.due("lower()", x.lower(), 1);
        Edge.due("finding()", x.finding(), 0);
        for (int f = 1; f <= 5; f++) Edge.due("findings(" + f + ")", x.findings(f), 0);
        Edge.of("39 to 42: before any was told, with a HOUSE, EVENTS, ROWS and TEXTS");
        x = Make.night("r2m5D0-1d0-1w1:0", "s0@1y1@3");
        x.row(0, 3);
        x.copy(0, 0, 0, 1, 2);
        x.mark(0, 1);
        x.could();
        x.fewest();
        x.where(0, 0);
        x.still(0, 1);
        x.way(0, 1);
        x.judge(0, 1);
        x.tear(0);
        Edge.due("asked()", x.asked(), 0);
        Edge.due("many()", x.many(), 0);
        Edge.due("upper()", x.upper(), 0);
        Edge.due("lower()", x.lower(), 1);
        Edge.due("finding()", x.finding(), 0);
        Edge.of("39 to 42: before any was told, behind what was refused");
        x = Make.night("r2m30d0-1d0-1d0-1d0-1d0-1d0-1d0-1d0-1w1:*w1:*", "");
        x.ways();
        x.chance(0, 0);
        x.likely(0, 0);
        x.quarrel();
        x.stuck();
        x.event(4, 0, 0, 0);
        x.event(4, 1, 0, 0);
        x.cheapest(1, 1);
        x.settle(1, 1, 100);
        x.chance(0, 0);
        x.rooms(0, 0);
        x.empty(0);
        x.third();
        x.met(0, 1);
        x.passes(0);
        x.at(0, 0);
        Edge.due("asked()", x.asked(), 0);
        Edge.due("many()", x.many(), 0);
        Edge.due("upper()", x.upper(), 0);
        Edge.due("lower()", x.lower(), 1);
    }

    /** Each call that tells by asked(), with what it tells; ahead of it asked() is another number. */
    private static void asked() {
        x = Make.night("r3m6D0-1d1-2w1:0w1:2", "s0@1y1@2");
        x.row(0, 1);
        x.row(1, 1);
        x.lay(1, 0, -77);
        x.lay(0, 0, 40);
        x.row(2, 2);
        x.lay(2, 0, 9);
        x.lay(2, 1, 3);
        dueAsked("lay", 40, () -> x.lay(0, 0, 41));
        dueAsked("at", 41, () -> x.at(0, 0));
        dueAsked("mean", 6, () -> x.mean(2));
        dueAsked("told", 2, () -> x.told(1, 3));
        dueAsked("door", 2, () -> x.door(1, 1));
        dueAsked("walker", 4, () -> x.walker(1, 1));
        dueAsked("rooms", 2, () -> x.rooms(1, 2));
        dueAsked("empty", 1 + 4, () -> x.empty(0));
        dueAsked("met", 2, () -> x.met(0, 1));
        dueAsked("whose", 1, () -> x.whose(0));
        dueAsked("same", 1, () -> x.same(1));
        dueAsked("passes", 1, () -> x.passes(0));
        dueAsked("third", 6, () -> x.third());
        dueAsked("cheapest", 0, () -> x.cheapest(5, 5));
        dueAsked("settle", 9, () -> x.settle(9, 5, 9));
        x.event(4, 1, 0, 2);
        dueAsked("could 0", 2, () -> x.could());
        Edge.of("39 could() (0): not of 1");
        x.back(2);
        x.at(1, 0);
        Edge.plain(x, "could() 1", 1, () -> x.could());
        Edge.of("39: met() never: NONE is told");
        Make.text(x, 1, "r2w1:0w1:1");
        x.house(1);
        x.at(1, 0);
        Edge.tells(x, "met(0, 1)", x.met(0, 1), 0, -9);
        Edge.of("39: no other call tells so");
        x = Make.night("r2m3d0-1w1:0", "y1@1");
        x.row(0, 1);
        x.lay(0, 0, -77);
        x.at(0, 0);
        int walks = 4;
        Edge.plain(x, "row", 4, () -> x.row(1, walks));
        Edge.plain(x, "way", 4, () -> x.way(0, 1));
        Edge.plain(x, "copy", 1, () -> x.copy(0, 0, 0, 0, 1));
        Edge.plain(x, "text", 2, () -> x.text(3, 2));
        Edge.plain(x, "put", 1032, () -> x.put(3, 0, 0));
        Edge.plain(x, "fault", -9, () -> x.fault(0, false));
        Edge.plain(x, "mark", 1, () -> x.mark(0, 2));
        Edge.plain(x, "fewest", 1, () -> x.fewest());
        Edge.plain(x, "ways", 1, () -> x.ways());
        Edge.plain(x, "where", 2, () -> x.where(0, 1));
        Edge.plain(x, "still", 1, () -> x.still(0, 2));
        Edge.plain(x, "judge", -9, () -> x.judge(0, 1));
        Edge.plain(x, "chance", 1, () -> x.chance(0, 0));
        Edge.plain(x, "likely", 0, () -> x.likely(0, 0));
        Edge.plain(x, "count", 1, () -> x.count(2));
        Edge.plain(x, "finding", 0, () -> x.finding());
        Edge.plain(x, "findings", 0, () -> x.findings(5));
        Edge.plain(x, "event", 1, () -> x.event(4, 1, 0, 1));
        Edge.plain(x, "stuck", -9, () -> x.stuck());
        Edge.plain(x, "quarrel", 2, () -> x.quarrel());
        Edge.plain(x, "ways of none", 0, () -> x.ways());
        Edge.plain(x, "back", 1, () -> x.back(1));
        Edge.plain(x, "night", 1, () -> x.night(1));
        Edge.plain(x, "tear", 1, () -> x.tear(1));
        Edge.plain(x, "house", 1, () -> x.house(0));
        x.digest();
        Edge.due("asked() behind digest()", x.asked(), -77);
    }

    private static void dueAsked(String call, int want, Edge.Call made) {
        Edge.of("39: what the latest " + call + "() told");
        x.at(1, 0);
        Edge.due("asked() ahead of it", x.asked(), -77);
        Edge.yes(call + "() is not refused", made.answer() >= 0);
        Edge.due("asked()", x.asked(), want);
        Edge.due("asked() again", x.asked(), want);
    }

    private static void many() {
        Edge.of("40: what the latest ways(), quarrel() told, of 0 ways, too");
        x = Make.house("r2m4d0-1w1:0");
        x.ways();
        Edge.due("many() of ways()", x.many(), 16);
        Edge.refused(x, "quarrel() of what can be", Edge.STATE, () -> x.quarrel());
        x.event(2, 1, 0, 4);
        Edge.due("many() behind event()", x.many(), 16);
        x.ways();
        Edge.due("many() of ways()", x.many(), 8);
        x.event(4, 1, 0, 4);
        x.quarrel();
        Edge.due("many() of quarrel()", x.many(), 3);
        x.ways();
        Edge.due("many() of no ways", x.many(), 0);
        x.quarrel();
        x.back(0);
        x.house(0);
        x.digest();
        Edge.due("many() behind house()", x.many(), 3);
        Edge.of("40: more than an int holds");
        x = Make.house("r2m30d0-1d0-1w1:0");
        x.ways();
        Edge.due("many() of 3 to the 30th", x.many(), 205891132094649L);
        x = Make.house("r2m29d0-1w1:0w2:0");
        x.ways();
        Edge.due("many() of 2 to the 29th times Fibonacci's 31st", x.many(), (1L << 29) * 1346269);
    }

    private static void fractions() {
        Edge.of("41, 42: of the fraction that was told last, by chance() or likely()");
        x = Make.house("r2m4d0-1d0-1w1:0");
        x.chance(1, 1);
        duePart("chance(1, 1)", 2, 3);
        x.likely(0, 2);
        duePart("likely(0, 2)", 5, 9);
        x.chance(0, 1);
        duePart("chance(0, 1)", 1, 3);
        x.chance(1, 0);
        duePart("chance(1, 0)", 0, 1);
        x.likely(0, 0);
        duePart("likely(0, 0)", 1, 1);
        Edge.of("41, 42: no other call tells one");
        x.chance(1, 1);
        x.ways();
        x.rooms(0, 0);
        x.third();
        x.event(2, 1, 0, 0);
        x.chance(0, 0);
        x.likely(0, 0);
        x.chance(2, 0);
        x.likely(1, 0);
        x.quarrel();
        x.back(0);
        x.digest();
        duePart("chance(1, 1), and others", 2, 3);
    }

    private static void duePart(String call, long upper, long lower) {
        Edge.due("upper() of " + call, x.upper(), upper);
        Edge.due("lower() of " + call, x.lower(), lower);
    }

    private static void dueCounts(int... counts) {
        for (int what = 0; what < 8; what++) {
            int itsWhat = what;
            Edge.plain(x, "count(" + what + ")", counts[what], () -> x.count(itsWhat));
        }
    }

    private static void counts() {
        Edge.of("43: the least of all");
        x = new CreakBoards();
        dueCounts(1, 0, 0, 12, 0, 0, 0, 0);
        Make.text(x, 0, "r1m1");
        x.house(0);
        dueCounts(1, 0, 0, 1, 0, 0, 0, 1);
        Edge.of("43: the most of all");
        x = Make.house("r6m30d0-1D1-2d2-3d3-4d4-5d0-5d1-4D2-5w1:*w1:*w1:*");
        for (int e = 0; e < 24; e++) x.event(e % 2 == 0 ? 2 : 3, 0, 0, 0);
        for (int r = 0; r < 6; r++) x.row(r, r % 2 == 0 ? 0 : 40);
        for (int t = 0; t < 4; t++) x.text(t, t % 2 == 0 ? 0 : 80);
        dueCounts(6, 8, 3, 30, 24, 24, 6, 4);
        Edge.of("43: SEEN ones (THIS, too), no other KIND");
        x.back(0);
        x.event(1, 1, 0, 0);
        x.event(4, 0, 0, 0);
        x.event(5, 0, 0, 0);
        dueCounts(6, 8, 3, 30, 3, 0, 6, 4);
        x.event(3, 0, 0, 0);
        dueCounts(6, 8, 3, 30, 4, 1, 6, 4);
        x.event(2, 0, 0, 0);
        dueCounts(6, 8, 3, 30, 5, 2, 6, 4);
        x.back(4);
        dueCounts(6, 8, 3, 30, 4, 1, 6, 4);
        Edge.of("43: ROWS that are there: made, torn, come by way()");
        x = Make.house("r1w1:0");
        x.row(0, 0);
        x.row(0, 1);
        dueCounts(1, 0, 1, 12, 0, 0, 1, 1);
        x.way(0, 5);
        dueCounts(1, 0, 1, 12, 0, 0, 2, 1);
        x.tear(0);
        dueCounts(1, 0, 1, 12, 0, 0, 1, 1);
        Edge.of("43 BAD: what below 0, above 7");
        for (int what : Edge.beyond(8)) Edge.refused(x, "count(" + what + ")", Edge.BAD, () -> x.count(what));
    }

    private static void findings() {
        Edge.of("44, 45: each FINDING, the latest, how often");
        x = Make.night("r2m5d0-1w1:0", "y1@0");
        Edge.Call[] calls = {() -> x.at(5, 0), () -> x.put(0, 80, 0), () -> x.whose(0), () -> x.empty(0), () -> x.row(0, -1)};
        for (int round = 1; round <= 3; round++) {
            for (int f = 1; f <= 5; f++) {
                Edge.found(x, "a call of FINDING " + f, f, calls[f - 1]);
                Edge.due("findings(" + f + ")", x.findings(f), round);
            }
        }
        Edge.found(x, "a call of FINDING 1", 1, calls[0]);
        Edge.of("44: what is BAD, FULL, STATE, SPENT, NONE is no FINDING, nor is what is not refused");
        x.at(6, 0);
        x.cheapest(0, 0);
        x.could();
        x.back(0);
        x.stuck();
        x.quarrel();
        Edge.due("finding()", x.finding(), 1);
        Edge.due("findings(1)", x.findings(1), 4);
        Edge.of("45: of many calls");
        CreakBoards y = new CreakBoards();
        for (int i = 1; i <= 300; i++) {
            y.tear(i % 6);
            Edge.due("findings(1)", y.findings(1), i);
        }
        Edge.of("45 BAD: f that is no FINDING (1 .. 5)");
        for (int f : new int[] {0, -1, 6, 7, 33, Edge.MAX, Edge.MIN}) Edge.refused(x, "findings(" + f + ")", Edge.BAD, () -> x.findings(f));
    }

    /** The digest by what the other calls tell. */
    private static long digestOf(CreakBoards y, int[][] rows, int[][] texts) {
        long h = 17;
        for (int what = 0; what < 8; what++) h = 31 * h + y.count(what);
        for (int d = 0; d < y.count(1); d++) {
            for (int what = 0; what < 3; what++) h = 31 * h + told(y, y.door(d, what));
        }
        for (int w = 0; w < y.count(2); w++) {
            for (int what = 0; what < 2; what++) h = 31 * h + told(y, y.walker(w, what));
        }
        for (int e = 0; e < y.count(4); e++) {
            for (int what = 0; what < 4; what++) h = 31 * h + told(y, y.told(e, what));
        }
        for (int[][] lists : new int[][][] {rows, texts}) {
            for (int[] list : lists) {
                h = 31 * h + (list == null ? -1 : list.length);
                for (int i = 0; list != null && i < list.length; i++) h = 31 * h + list[i];
            }
        }
        return h;
    }

    private static int told(CreakBoards y, int answer) {
        Edge.due("the call answers", answer, 1);
        return y.asked();
    }

    private static void digest() {
        Edge.of("46: of a new object");
        x = new CreakBoards();
        Edge.due("digest()", x.digest(), digestOf(x, new int[6][], new int[4][]));
        Edge.due("asked() stays", x.asked(), 0);
        Edge.of("46: ROWS and TEXTS: missing, of none, of the least and the greatest numbers, full");
        int[][] rows = new int[6][];
        int[][] texts = new int[4][];
        rows[0] = new int[0];
        texts[0] = new int[0];
        x.row(0, 0);
        x.text(0, 0);
        Edge.due("digest() of none", x.digest(), digestOf(x, rows, texts));
        for (int r = 1; r < 6; r++) {
            rows[r] = new int[r == 1 ? 1 : 40];
            x.row(r, rows[r].length);
            for (int i = 0; i < rows[r].length; i++) {
                rows[r][i] = (i + r) % 3 == 0 ? Edge.MIN : (i + r) % 3 == 1 ? Edge.MAX : -1;
                x.lay(r, i, rows[r][i]);
            }
            Edge.due("digest() with ROW " + r, x.digest(), digestOf(x, rows, texts));
        }
        for (int t = 1; t < 4; t++) {
            texts[t] = new int[t == 1 ? 1 : 80];
            x.text(t, texts[t].length);
            for (int i = 0; i < texts[t].length; i++) {
                texts[t][i] = (byte) (37 * i + 128 * t);
                x.put(t, i, 37 * i + 128 * t);
            }
            Edge.due("digest() with TEXT " + t, x.digest(), digestOf(x, rows, texts));
        }
        x.tear(3);
        rows[3] = null;
        Edge.due("digest() of a torn ROW", x.digest(), digestOf(x, rows, texts));
        Edge.of("46: DOORS, WALKERS, EVENTS: all that there can be");
        String house = "r6m30d0-1D1-2d2-3d3-4d4-5d5-0d1-4D5-2w1:*w2:5w1:0";
        x = Make.house(house);
        texts = new int[4][];
        texts[0] = new int[house.length()];
        for (int i = 0; i < house.length(); i++) texts[0][i] = house.charAt(i);
        rows = new int[6][];
        for (int e = 0; e < 24; e++) {
            int before = e;
            Edge.yes("digest() of " + e + " EVENTS", x.digest() == digestOf(x, rows, texts));
            if (e % 4 == 0) Edge.plain(x, "event", before, () -> x.event(5, before % 8, 29, before));
            else if (e % 4 == 1) Edge.plain(x, "event", before, () -> x.event(1, 7, 5, before));
            else if (e % 4 == 2) Edge.plain(x, "event", before, () -> x.event(3, 5, 2, before));
            else Edge.plain(x, "event", before, () -> x.event(2, 5, 9, before + 7));
        }
        Edge.due("digest() of 24 EVENTS", x.digest(), digestOf(x, rows, texts));
        x.at(5, 0);
        int asked = x.asked();
        x.digest();
        Edge.due("asked() stays", x.asked(), asked);
        x.back(7);
        Edge.due("digest() behind back()", x.digest(), digestOf(x, rows, texts));
        Edge.of("46: no finding, no fraction, nothing that was asked is in it");
        long h = x.digest();
        x.at(5, 0);
        x.could();
        x.ways();
        x.quarrel();
        x.chance(0, 0);
        x.passes(0);
        x.fault(0, true);
        x.fault(0, false);
        Edge.due("digest()", x.digest(), h);
    }

    private static void order() {
        Edge.of("ANSWERS: the numbers");
        int[] numbers = {CreakBoards.BAD, CreakBoards.FULL, CreakBoards.FINDING, CreakBoards.STATE, CreakBoards.SPENT, CreakBoards.NONE};
        int[] due = {-1, -2, -3, -4, -6, -9};
        for (int i = 0; i < due.length; i++) Edge.due("constant " + i, numbers[i], due[i]);
        Edge.of("ANSWERS: the 512th call of an object answers as the first ones do");
        x = Make.night("r6m30d0-1d1-2d2-3D3-4D4-5d5-0d0-3d1-4w2:*w2:*w2:*", "s3@3s4@9y0@20n1@2y3@30");
        int made = 1;
        for (int i = 0; made < 400; i++) {
            made += 4;
            Edge.due("rooms()", x.rooms(i % 6, i % 31), x.rooms(i % 6, i % 31));
            Edge.due("chance() SPENT", x.chance(i % 6, i % 31), -6);
            Edge.due("could()", x.could(), 1);
        }
        x.event(2, 0, 0, 2);
        x.event(4, 0, 0, 2);
        int quarrel = x.quarrel();
        long which = x.many();
        Edge.due("quarrel()", quarrel, 2);
        Edge.due("many()", which, 96);
        for (int i = 0; i < 20; i++) {
            Edge.due("quarrel() again", x.quarrel(), quarrel);
            Edge.due("many() again", x.many(), which);
            Edge.due("settle()", x.settle(1, 1, 1), -9);
        }
    }

    public static void main(String[] args) {
        before();
        asked();
        many();
        fractions();
        counts();
        findings();
        digest();
        order();
        Edge.end("EdgeToldTest");
    }
}
