import java.math.BigInteger;
import java.util.Set;

/**
 * The greatest numbers that are taken, together: up to six rooms, eight doors, three walkers, 30 minutes, 24 events; and
 * the least: one minute. Each answer of the class against the slow way's, minute by minute.
 */
public final class WideTest {
    private static final BigInteger MOST = BigInteger.valueOf(1000000000000000L);
    private static long seed = 20261120L;
    private static Wide o;
    private static CreakBoards x;
    private static String where;
    private static int could = 0, couldNot = 0, spent = 0, full = 0;

    private static int draw(int n) {
        seed = seed * 6364136223846793005L + 1442695040888963407L;
        return (int) ((seed >>> 33) % n);
    }

    private static void house(int rooms, int last, int doors, int boards, int walkers) {
        o = new Wide();
        o.rooms = rooms;
        o.last = last;
        StringBuilder text = new StringBuilder("r" + rooms + "m" + last);
        for (int d = 0; d < doors; d++) {
            // The first doors make one house of all rooms, if there are enough; the others are anywhere.
            int a = d < rooms - 1 ? d : draw(rooms);
            int b = d < rooms - 1 ? d + 1 : (a + 1 + draw(rooms - 1)) % rooms;
            int board = draw(doors) < boards ? 1 : 0;
            o.doors.add(new int[] {a, b, board});
            text.append(board == 1 ? 'D' : 'd').append(a).append('-').append(b);
        }
        for (int w = 0; w < walkers; w++) {
            int begin = draw(3) == 0 ? (1 << rooms) - 1 : 1 << draw(rooms) | 1 << draw(rooms);
            o.walkers.add(new int[] {1 + draw(2), begin});
            text.append('w').append(o.walkers.get(w)[0]).append(':');
            for (int r = 0; r < rooms; r++) if ((begin >> r & 1) != 0) text.append(r);
        }
        where = text.toString();
        x = Make.house(where);
    }

    private static void tell(int kind, int a, int b, int t) {
        if (o.events.size() >= 24) return;
        Check.due(where + " event", x.event(kind, a, b, t), o.events.size());
        o.events.add(new int[] {kind, a, b, t});
        where += " [" + kind + " " + a + " " + b + " " + t + "]";
    }

    /** One way that there is, its sounds, and some of what can be seen in it. */
    private static void night(int most, int moves) {
        int k = o.walkers.size();
        int[][] room = new int[k][o.last + 1];
        int[][] door = new int[k][o.last];
        for (int w = 0; w < k; w++) {
            do room[w][0] = draw(o.rooms); while ((o.walkers.get(w)[1] >> room[w][0] & 1) == 0);
        }
        int sounds = 0;
        for (int t = 0; t < o.last; t++) {
            for (int w = 0; w < k; w++) {
                door[w][t] = -1;
                room[w][t + 1] = room[w][t];
                int d = o.doors.isEmpty() ? 0 : draw(o.doors.size());
                boolean tired = o.walkers.get(w)[0] == 2 && t > 0 && door[w][t - 1] >= 0;
                if (tired || o.doors.isEmpty() || draw(10) >= moves || o.doors.get(d)[2] == 1 && sounds >= most) continue;
                int a = o.doors.get(d)[0];
                int b = o.doors.get(d)[1];
                if (a != room[w][t] && b != room[w][t]) continue;
                door[w][t] = d;
                room[w][t + 1] = a == room[w][t] ? b : a;
                if (o.doors.get(d)[2] == 1 && !o.sounds(o.events, d, t)) {
                    tell(1, d, 0, t);
                    sounds++;
                }
            }
        }
        see(room, door);
    }

    private static void see(int[][] room, int[][] door) {
        int k = room.length;
        for (int i = draw(8); i > 0 && k > 0; i--) {
            int w = draw(k);
            int t = draw(3) == 0 ? draw(2) * o.last : draw(o.last + 1);
            if (draw(2) == 0) tell(2, room[w][t], 0, t);
            else tell(3, room[w][t], w, t);
            int r = draw(o.rooms);
            boolean bare = true;
            for (int v = 0; v < k; v++) bare &= room[v][t] != r;
            if (bare) tell(4, r, 0, t);
        }
        for (int i = draw(4); i > 0 && !o.doors.isEmpty(); i--) {
            int d = draw(o.doors.size());
            int t = draw(o.last);
            boolean passed = false;
            for (int w = 0; w < k; w++) passed |= door[w][t] == d;
            if (!passed) tell(5, d, t, t);
        }
    }

    /** Events told again, till there are 24. */
    private static void fill() {
        int told = o.events.size();
        for (int i = told; i < 24 && told > 0; i++) {
            int[] e = o.events.get(draw(told));
            tell(e[0], e[1], e[2], e[3]);
        }
    }

    private static void spoil() {
        int t = draw(o.last + 1);
        switch (draw(4)) {
            case 0:
                if (!o.walkers.isEmpty()) tell(3, draw(o.rooms), draw(o.walkers.size()), t);
                break;
            case 1:
                for (int d = 0; d < o.doors.size(); d++) if (draw(2) == 0) tell(5, d, o.last - 1, draw(o.last));
                tell(2, draw(o.rooms), 0, t);
                break;
            case 2:
                for (int d = 0; d < o.doors.size(); d++) if (o.doors.get(d)[2] == 1 && draw(3) == 0) tell(1, d, 0, draw(o.last));
                break;
            default:
                for (int r = 0; r < o.rooms; r++) if (draw(3) > 0) tell(2, r, 0, t);
        }
    }

    private static void due(String call, long got, long want) {
        Check.due(where + ": " + call, got, want);
    }

    private static void dueAsked(String call, long got, long want, long asked) {
        due(call, got, want);
        due(call + " asked()", x.asked(), asked);
    }

    private static void ask(boolean dear) {
        o.search();
        if (o.events.size() == 24) full++;
        due("could()", x.could(), o.could == Wide.NONE ? 1 : 0);
        if (o.could == Wide.NONE) can();
        else cannot(dear);
        due("fewest()", x.fewest(), o.fewest());
        loose(draw(100), draw(100), draw(100));
    }

    private static void loose(int miss, int self, int head) {
        int best = -9;
        int sum = 0;
        int[] least = null;
        for (int k = 0; k <= o.walkers.size(); k++) {
            least = o.cheapest(k, miss, self);
            if (least == null || best != -9 && least[0] + k * head >= sum) continue;
            best = k;
            sum = least[0] + k * head;
        }
        String prices = "(" + miss + ", " + self + ", " + head + ")";
        int before = x.asked();
        dueAsked("cheapest" + prices, x.cheapest(miss, self), least == null ? -9 : least[0], least == null ? before : least[1]);
        dueAsked("settle" + prices, x.settle(miss, self, head), best, best == -9 ? x.asked() : sum);
    }

    private static void cannot(boolean dear) {
        couldNot++;
        due("could() asked()", x.asked(), o.could);
        due("ways()", x.ways(), 0);
        due("rooms(0, 0)", x.rooms(0, 0), -3);
        if (dear) due("stuck()", x.stuck(), o.stuck());
        long stay = o.quarrel();
        due("quarrel()", x.quarrel(), Long.bitCount(stay));
        due("quarrel() many()", x.many(), stay);
    }

    private static void can() {
        could++;
        BigInteger all = o.ways(0, state -> true);
        boolean isSpent = all.compareTo(MOST) > 0;
        if (isSpent) spent++;
        due("ways()", x.ways(), isSpent ? -6 : 1);
        if (!isSpent) due("ways() many()", x.many(), all.longValueExact());
        for (int t = 0; t <= o.last; t++) minute(t);
        for (int t : new int[] {0, draw(o.last + 1), o.last}) parts(t, all, isSpent);
        for (int w = 0; w < o.walkers.size(); w++) {
            ofWalker(w);
            for (int other = 0; other < o.walkers.size(); other++) {
                if (other == w) continue;
                int[] met = o.met(w, other);
                dueAsked("met(" + w + ", " + other + ")", x.met(w, other), met[0], met[1]);
            }
        }
        ofDoors();
        for (int e = 0; e < o.events.size(); e++) ofEvent(e);
    }

    private static void minute(int t) {
        Set<Integer> states = o.living.get(t);
        int never = 0;
        int always = 0;
        for (int r = 0; r < o.rooms; r++) {
            int least = 9;
            int most = 0;
            for (int state : states) {
                least = Math.min(least, o.inRoom(state, r));
                most = Math.max(most, o.inRoom(state, r));
            }
            if (most == 0) never |= 1 << r;
            if (least > 0) always |= 1 << r;
            dueAsked("rooms(" + r + ", " + t + ")", x.rooms(r, t), least, most);
        }
        dueAsked("empty(" + t + ")", x.empty(t), never, always);
        for (int w = 0; w < o.walkers.size(); w++) {
            int may = 0;
            for (int state : states) may |= 1 << Wide.room(state, w);
            due("where(" + w + ", " + t + ")", x.where(w, t), may);
        }
    }

    private static void duePart(String call, BigInteger part, BigInteger all) {
        BigInteger common = part.gcd(all);
        due(call + " upper()", x.upper(), part.divide(common).longValueExact());
        due(call + " lower()", x.lower(), all.divide(common).longValueExact());
    }

    private static void parts(int t, BigInteger all, boolean isSpent) {
        for (int r = 0; r < o.rooms; r++) {
            int room = r;
            due("chance(" + r + ", " + t + ")", x.chance(r, t), isSpent ? -6 : 1);
            if (!isSpent) duePart("chance(" + r + ", " + t + ")", o.ways(t, state -> o.inRoom(state, room) > 0), all);
        }
        for (int w = 0; w < o.walkers.size(); w++) {
            int walker = w;
            int best = 0;
            BigInteger most = BigInteger.ZERO;
            for (int r = 0; r < o.rooms; r++) {
                int room = r;
                BigInteger here = o.ways(t, state -> Wide.room(state, walker) == room);
                if (here.compareTo(most) <= 0) continue;
                most = here;
                best = r;
            }
            due("likely(" + w + ", " + t + ")", x.likely(w, t), isSpent ? -6 : best);
            if (!isSpent) duePart("likely(" + w + ", " + t + ")", most, all);
        }
    }

    private static void ofWalker(int w) {
        for (int n : new int[] {1, 2, 1 + draw(o.last), Math.max(1, o.last - 1), o.last, Math.min(30, o.last + 1)}) {
            due("still(" + w + ", " + n + ")", x.still(w, n), o.still(w, n));
        }
        int[] way = o.way(w);
        due("way(" + w + ", 1)", x.way(w, 1), o.last + 1);
        for (int t = 0; t <= o.last; t++) dueAsked("way(" + w + ", 1) at " + t, x.at(1, t), 1, way[t]);
        due("judge(" + w + ") of its way", x.judge(w, 1), -9);
        for (int i = 0; i < 4; i++) {
            int t = draw(o.last + 1);
            way[t] = draw(o.rooms);
            x.lay(1, t, way[t]);
            due("judge(" + w + ") of " + java.util.Arrays.toString(way), x.judge(w, 1), o.judge(w, way));
        }
    }

    private static void ofDoors() {
        int third = -9;
        int most = -1;
        for (int d = 0; d < o.doors.size(); d++) {
            int may = 0;
            int must = 0;
            for (int t = 0; t < o.last; t++) {
                boolean[] passed = o.passed(d, t, -1);
                if (passed[0]) may++;
                if (passed[1]) must++;
            }
            dueAsked("passes(" + d + ")", x.passes(d), may, must);
            if (o.doors.get(d)[2] == 1 || may - must <= most) continue;
            third = d;
            most = may - must;
        }
        int before = x.asked();
        dueAsked("third()", x.third(), third, third == -9 ? before : most);
    }

    private static void ofEvent(int e) {
        int[] event = o.events.get(e);
        int may = 0;
        int must = 0;
        for (int w = 0; w < o.walkers.size() && event[0] <= 3; w++) {
            boolean in = false;
            boolean always = true;
            if (event[0] == 1) {
                boolean[] passed = o.passed(event[1], event[3], w);
                in = passed[0];
                always = passed[1];
            } else {
                for (int state : o.living.get(event[3])) {
                    in |= Wide.room(state, w) == event[1];
                    always &= Wide.room(state, w) == event[1];
                }
            }
            if (in) may |= 1 << w;
            if (always) must |= 1 << w;
        }
        if (event[0] == 1) dueAsked("whose(" + e + ")", x.whose(e), may, must);
        if (event[0] == 2 || event[0] == 3) dueAsked("same(" + e + ")", x.same(e), may, must);
    }

    public static void main(String[] args) {
        // Rooms, the last minute, doors, boards among them, walkers; how many sounds at most, how often somebody moves.
        int[][] houses = {{6, 30, 8, 8, 3, 24, 5}, {6, 30, 8, 6, 3, 16, 5}, {6, 30, 8, 7, 3, 20, 9}, {6, 12, 8, 4, 3, 16, 8},
            {6, 30, 8, 8, 2, 20, 5}, {6, 30, 8, 4, 2, 16, 5}, {6, 30, 8, 0, 1, 0, 5}, {5, 30, 4, 2, 3, 20, 5}, {2, 30, 8, 8, 3, 24, 5},
            {6, 1, 8, 8, 3, 8, 9}, {6, 1, 8, 0, 3, 0, 9}, {1, 30, 0, 0, 3, 0, 0}, {6, 30, 8, 4, 0, 0, 0}, {1, 1, 0, 0, 1, 0, 0},
            {6, 2, 8, 4, 3, 12, 9}, {3, 30, 3, 1, 3, 20, 5}, {6, 9, 8, 2, 3, 20, 8}, {4, 20, 8, 8, 3, 20, 6}};
        for (int round = 0; round < 5; round++) {
            for (int[] h : houses) {
                house(h[0], h[1], h[2], h[3], h[4]);
                night(h[5], h[6]);
                if (round == 0) fill();
                if (round >= 2) spoil();
                if (round >= 3) spoil();
                ask(h[3] >= 6 || h[1] <= 12);
            }
        }
        System.out.println(could + " nights that can be (" + spent + " SPENT), " + couldNot + " that cannot, " + full + " of 24 events");
        Check.yes("nights of each sort were drawn", could > 40 && couldNot > 20 && spent > 5 && full > 10);
        Check.end("WideTest");
    }
}
