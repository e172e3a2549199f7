import java.util.List;

/** Small houses and nights drawn by a fixed row of numbers, each answer of the class against the slow way's. */
public final class OracleTest {
    private static long seed = 20261119L;
    private static Oracle o;
    private static CreakBoards x;
    private static String where;
    private static int could = 0;
    private static int couldNot = 0;

    private static int draw(int n) {
        seed = seed * 6364136223846793005L + 1442695040888963407L;
        return (int) ((seed >>> 33) % n);
    }

    private static void drawHouse() {
        o = new Oracle();
        o.rooms = 1 + draw(4);
        o.last = 1 + draw(5);
        StringBuilder text = new StringBuilder("r" + o.rooms + " m" + o.last);
        int doors = o.rooms < 2 ? 0 : draw(5);
        for (int d = 0; d < doors; d++) {
            int a = draw(o.rooms);
            int b = (a + 1 + draw(o.rooms - 1)) % o.rooms;
            int board = draw(3) > 0 ? 1 : 0;
            o.doors.add(new int[] {a, b, board});
            text.append(board == 1 ? 'D' : 'd').append(a).append('-').append(b);
        }
        int walkers = draw(4);
        for (int w = 0; w < walkers; w++) {
            int pace = 1 + draw(2);
            int begin = draw(2) == 0 ? (1 << o.rooms) - 1 : 1 + draw((1 << o.rooms) - 1);
            o.walkers.add(new int[] {pace, begin});
            text.append('w').append(pace).append(':');
            for (int r = 0; r < o.rooms; r++) if ((begin >> r & 1) != 0) text.append(r);
        }
        x = Make.house(text.toString());
        where = text.toString();
        o.writeWalks();
    }

    private static void tell(int kind, int a, int b, int t) {
        int n = x.event(kind, a, b, t);
        Check.due(where + " event", n, o.events.size());
        o.events.add(new int[] {kind, a, b, t});
        where += " [" + kind + " " + a + " " + b + " " + t + "]";
    }

    private static boolean isBoard(int d) {
        return o.doors.get(d)[2] == 1;
    }

    /** The sounds of a way that there is, some of what can be seen in it, and at times something else. */
    private static void drawNight() {
        Oracle.Walk[] way = new Oracle.Walk[o.walkers.size()];
        for (int w = 0; w < way.length; w++) way[w] = o.walks.get(w).get(draw(o.walks.get(w).size()));
        for (int t = 0; t < o.last; t++) {
            for (int d = 0; d < o.doors.size(); d++) {
                boolean passed = false;
                for (Oracle.Walk walk : way) passed |= walk.door[t] == d;
                if (passed && isBoard(d) && o.events.size() < 18 && draw(25) > 0) tell(1, d, 0, t);
                if (!passed && draw(20) == 0) tell(5, d, t, t);
            }
        }
        for (int i = draw(4); i > 0 && way.length > 0; i--) {
            int w = draw(way.length);
            int t = draw(o.last + 1);
            if (draw(2) == 0) tell(2, way[w].room[t], 0, t);
            else if (draw(2) == 0) tell(3, way[w].room[t], w, t);
        }
        for (int i = draw(3); i > 0; i--) drawOther();
    }

    private static void drawOther() {
        int kind = 1 + draw(5);
        int t = draw(o.last);
        int d = o.doors.isEmpty() ? -1 : draw(o.doors.size());
        if (kind == 1 && d >= 0 && isBoard(d)) tell(1, d, 0, t);
        if (kind == 2 && draw(2) == 0) tell(2, draw(o.rooms), 0, draw(o.last + 1));
        if (kind == 3 && !o.walkers.isEmpty()) tell(3, draw(o.rooms), draw(o.walkers.size()), draw(o.last + 1));
        if (kind == 4) tell(4, draw(o.rooms), 0, draw(o.last + 1));
        if (kind == 5 && d >= 0) tell(5, d, t + draw(o.last - t), t);
    }

    private static void due(String call, long got, long want) {
        Check.due(where + ": " + call, got, want);
    }

    private static void dueAsked(String call, long got, long want, long asked) {
        due(call, got, want);
        due(call + " asked()", x.asked(), asked);
    }

    private static void duePart(String call, long part, long all) {
        long a = all;
        long b = part;
        while (b != 0) {
            long rest = a % b;
            a = b;
            b = rest;
        }
        due(call + " upper()", x.upper(), part / a);
        due(call + " lower()", x.lower(), all / a);
    }

    private static void whatever() {
        due("fewest()", x.fewest(), o.fewest());
        int miss = draw(4);
        int self = draw(4);
        int head = draw(3);
        int[] least = o.cheapest(o.walkers.size(), miss, self);
        x.at(0, 0);
        int before = x.asked();
        String prices = "(" + miss + ", " + self + ", " + head + ")";
        dueAsked("cheapest" + prices, x.cheapest(miss, self), least == null ? -9 : least[0], least == null ? before : least[1]);
        int best = -9;
        int sum = x.asked();
        for (int k = 0; k <= o.walkers.size(); k++) {
            int[] some = o.cheapest(k, miss, self);
            if (some == null || best != -9 && some[0] + k * head >= sum) continue;
            best = k;
            sum = some[0] + k * head;
        }
        dueAsked("settle" + prices, x.settle(miss, self, head), best, sum);
    }

    private static void cannot() {
        couldNot++;
        due("could()", x.could(), 0);
        due("could() asked()", x.asked(), o.could());
        due("ways()", x.ways(), 0);
        due("many()", x.many(), 0);
        int stuck = o.stuck();
        due("stuck()", x.stuck(), stuck);
        long stay = o.quarrel();
        due("quarrel()", x.quarrel(), Long.bitCount(stay));
        due("many()", x.many(), stay);
        due("stuck() behind quarrel()", x.stuck(), stuck);
        due("rooms(0, 0)", x.rooms(0, 0), -3);
        due("third()", x.third(), -3);
    }

    private static void can(List<Oracle.Walk[]> ways) {
        could++;
        due("could()", x.could(), 1);
        due("stuck()", x.stuck(), -4);
        due("quarrel()", x.quarrel(), -4);
        due("ways()", x.ways(), 1);
        due("many()", x.many(), ways.size());
        for (int t = 0; t <= o.last; t++) minute(ways, t);
        for (int w = 0; w < o.walkers.size(); w++) {
            ofWalker(ways, w);
            for (int other = 0; other < o.walkers.size(); other++) if (other != w) meeting(ways, w, other);
        }
        ofDoors(ways);
        for (int e = 0; e < o.events.size(); e++) ofEvent(ways, e);
    }

    private static void minute(List<Oracle.Walk[]> ways, int t) {
        int never = (1 << o.rooms) - 1;
        int always = never;
        for (int r = 0; r < o.rooms; r++) {
            int least = 9;
            int most = 0;
            int held = 0;
            for (Oracle.Walk[] way : ways) {
                int here = 0;
                for (Oracle.Walk walk : way) if (walk.room[t] == r) here++;
                least = Math.min(least, here);
                most = Math.max(most, here);
                if (here > 0) held++;
            }
            if (most > 0) never &= ~(1 << r);
            if (least == 0) always &= ~(1 << r);
            dueAsked("rooms(" + r + ", " + t + ")", x.rooms(r, t), least, most);
            due("chance(" + r + ", " + t + ")", x.chance(r, t), 1);
            duePart("chance(" + r + ", " + t + ")", held, ways.size());
        }
        dueAsked("empty(" + t + ")", x.empty(t), never, always);
        for (int w = 0; w < o.walkers.size(); w++) {
            int[] in = new int[o.rooms];
            for (Oracle.Walk[] way : ways) in[way[w].room[t]]++;
            int may = 0;
            int best = 0;
            for (int r = 0; r < o.rooms; r++) {
                if (in[r] > 0) may |= 1 << r;
                if (in[r] > in[best]) best = r;
            }
            due("where(" + w + ", " + t + ")", x.where(w, t), may);
            due("likely(" + w + ", " + t + ")", x.likely(w, t), best);
            duePart("likely(" + w + ", " + t + ")", in[best], ways.size());
        }
    }

    private static void meeting(List<Oracle.Walk[]> ways, int w, int other) {
        int first = 99;
        boolean must = true;
        for (Oracle.Walk[] way : ways) {
            int when = 99;
            for (int t = o.last; t >= 0; t--) if (way[w].room[t] == way[other].room[t]) when = t;
            first = Math.min(first, when);
            if (when == 99) must = false;
        }
        dueAsked("met(" + w + ", " + other + ")", x.met(w, other), first == 99 ? 0 : must ? 2 : 1, first == 99 ? -9 : first);
    }

    private static void ofWalker(List<Oracle.Walk[]> ways, int w) {
        for (int n = 1; n <= o.last + 1; n++) {
            int stood = 0;
            for (Oracle.Walk[] way : ways) {
                boolean once = false;
                for (int t = 0; t + n <= o.last; t++) {
                    boolean stays = true;
                    for (int u = t; u < t + n; u++) stays &= way[w].door[u] < 0;
                    once |= stays;
                }
                if (once) stood++;
            }
            due("still(" + w + ", " + n + ")", x.still(w, n), stood == ways.size() ? 2 : stood > 0 ? 1 : 0);
        }
        int[] first = null;
        for (Oracle.Walk[] way : ways) if (first == null || java.util.Arrays.compare(way[w].room, first) < 0) first = way[w].room;
        due("way(" + w + ", 1)", x.way(w, 1), o.last + 1);
        for (int t = 0; t <= o.last; t++) dueAsked("way(" + w + ", 1) at(1, " + t + ")", x.at(1, t), 1, first[t]);
        judging(ways, w, first);
        int[] told = new int[o.last + 1];
        for (int t = 0; t <= o.last; t++) told[t] = draw(o.rooms);
        judging(ways, w, told);
        told = ways.get(draw(ways.size()))[w].room.clone();
        told[draw(told.length)] = draw(o.rooms);
        judging(ways, w, told);
    }

    private static void judging(List<Oracle.Walk[]> ways, int w, int[] told) {
        int longest = 0;
        for (Oracle.Walk[] way : ways) {
            int t = 0;
            while (t <= o.last && way[w].room[t] == told[t]) t++;
            longest = Math.max(longest, t);
        }
        x.row(2, o.last + 1);
        for (int t = 0; t <= o.last; t++) x.lay(2, t, told[t]);
        due("judge(" + w + ", " + java.util.Arrays.toString(told) + ")", x.judge(w, 2), longest > o.last ? -9 : longest);
    }

    private static void ofDoors(List<Oracle.Walk[]> ways) {
        int third = -9;
        int most = -1;
        for (int d = 0; d < o.doors.size(); d++) {
            int may = 0;
            int must = 0;
            for (int t = 0; t < o.last; t++) {
                int passed = 0;
                for (Oracle.Walk[] way : ways) {
                    boolean some = false;
                    for (Oracle.Walk walk : way) some |= walk.door[t] == d;
                    if (some) passed++;
                }
                if (passed > 0) may++;
                if (passed == ways.size()) must++;
            }
            dueAsked("passes(" + d + ")", x.passes(d), may, must);
            if (!isBoard(d) && may - must > most) {
                third = d;
                most = may - must;
            }
        }
        int before = x.asked();
        dueAsked("third()", x.third(), third, third == -9 ? before : most);
    }

    private static void ofEvent(List<Oracle.Walk[]> ways, int e) {
        int[] event = o.events.get(e);
        int t = event[3];
        int may = 0;
        int must = 0;
        for (int w = 0; w < o.walkers.size(); w++) {
            int many = 0;
            for (Oracle.Walk[] way : ways) {
                if (event[0] == 1 ? way[w].door[t] == event[1] : way[w].room[t] == event[1]) many++;
            }
            if (many > 0) may |= 1 << w;
            if (many == ways.size()) must |= 1 << w;
        }
        if (event[0] == 1) dueAsked("whose(" + e + ")", x.whose(e), may, must);
        else due("whose(" + e + ")", x.whose(e), -3);
        if (event[0] == 2 || event[0] == 3) dueAsked("same(" + e + ")", x.same(e), may, must);
        else due("same(" + e + ")", x.same(e), -3);
    }

    public static void main(String[] args) {
        int houses = 0;
        for (int i = 0; i < 20000 && houses < 2500; i++) {
            drawHouse();
            if (o.size() > 20000) continue;
            houses++;
            drawNight();
            List<Oracle.Walk[]> ways = o.ways();
            // What asks for other ways must leave what is known of these ways as it is.
            x.empty(0);
            whatever();
            if (ways.isEmpty()) cannot();
            else can(ways);
        }
        System.out.println(houses + " houses: " + could + " nights that can be, " + couldNot + " that cannot");
        Check.yes("nights of both kinds were drawn", could > 300 && couldNot > 300);
        Check.end("OracleTest");
    }
}
