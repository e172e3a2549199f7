/**
 * An object that has had other houses, nights, rows and questions answers as a new one does: nothing of them is left, and
 * no question changes what another one answers.
 */
public final class HistoryTest {
    private static final int QUESTIONS = 20;
    private static long seed = 512L;
    private static int rooms, last, doors, walkers;
    private static long boards;

    private static int draw(int n) {
        seed = seed * 6364136223846793005L + 1442695040888963407L;
        return (int) ((seed >>> 33) % n);
    }

    private static String drawHouse() {
        rooms = 1 + draw(6);
        last = 1 + draw(draw(4) == 0 ? 30 : 6);
        doors = rooms < 2 ? 0 : draw(9);
        walkers = draw(4);
        boards = 0;
        StringBuilder text = new StringBuilder("r" + rooms);
        for (int d = 0; d < doors; d++) {
            int a = draw(rooms);
            boolean board = draw(2) == 0;
            if (board) boards |= 1 << d;
            text.append(board ? 'D' : 'd').append(a).append('-').append((a + 1 + draw(rooms - 1)) % rooms);
        }
        for (int w = 0; w < walkers; w++) {
            text.append('w').append(1 + draw(2)).append(':');
            int begin = 1 + draw((1 << rooms) - 1);
            for (int r = 0; r < rooms; r++) if ((begin >> r & 1) != 0) text.append(r);
        }
        if (last != 12) text.append('m').append(last);
        return text.toString();
    }

    /** An event as likely as not to be so; the same one for both objects. */
    private static int[] drawEvent() {
        int kind = 1 + draw(5);
        int t = draw(last);
        switch (kind) {
            case 1: return new int[] {1, draw(Math.max(1, doors)), 0, t};
            case 3: return new int[] {3, draw(rooms), draw(Math.max(1, walkers)), draw(last + 1)};
            case 5: return new int[] {5, draw(Math.max(1, doors)), t + draw(last - t), t};
            default: return new int[] {kind, draw(rooms), 0, draw(last + 1)};
        }
    }

    private static int[] drawQuestion() {
        return new int[] {draw(QUESTIONS), draw(6), draw(last + 1), draw(3), draw(3)};
    }

    private static int ask(CreakBoards x, int[] q) {
        int e = Math.max(0, q[2] % Math.max(1, x.count(4)));
        switch (q[0]) {
            case 0: return x.could();
            case 1: return x.fewest();
            case 2: return x.ways();
            case 3: return x.rooms(q[1], q[2]);
            case 4: return x.empty(q[2]);
            case 5: return x.where(q[3], q[2]);
            case 6: return x.met(q[3], q[4]);
            case 7: return x.still(q[3], 1 + q[2]);
            case 8: return x.judge(q[3], 1);
            case 9: return x.way(q[3], 1);
            case 10: return x.whose(e);
            case 11: return x.same(e);
            case 12: return x.passes(q[1]);
            case 13: return x.third();
            case 14: return x.chance(q[1], q[2]);
            case 15: return x.likely(q[3], q[2]);
            case 16: return x.cheapest(q[3], q[4]);
            case 17: return x.settle(q[3], q[4], q[1]);
            case 18: return x.stuck();
            default: return x.quarrel();
        }
    }

    private static void compare(String house, CreakBoards old, int[][] events, int[] q) {
        CreakBoards young = Make.house(house);
        for (int[] e : events) young.event(e[0], e[1], e[2], e[3]);
        young.row(1, last + 1);
        old.row(1, last + 1);
        old.row(5, 1);
        old.at(5, 0);
        String call = "question " + java.util.Arrays.toString(q) + " of '" + house + "' " + java.util.Arrays.deepToString(events);
        int answer = ask(old, q);
        Check.due(call, answer, ask(young, q));
        Check.due(call + " asked()", old.asked(), young.asked());
        if (answer >= 0 && (q[0] == 2 || q[0] == 19)) Check.due(call + " many()", old.many(), young.many());
        if (answer >= 0 && (q[0] == 14 || q[0] == 15)) {
            Check.due(call + " upper()", old.upper(), young.upper());
            Check.due(call + " lower()", old.lower(), young.lower());
        }
        for (int t = 0; answer >= 0 && q[0] == 9 && t <= last; t++) {
            old.at(1, t);
            young.at(1, t);
            Check.due(call + " at " + t, old.asked(), young.asked());
        }
    }

    private static void life() {
        CreakBoards old = new CreakBoards();
        for (int n = 0; n < 4; n++) {
            String house = drawHouse();
            Make.text(old, n, house);
            if (draw(2) == 0) old.fault(draw(n + 1), false);
            Check.yes("house '" + house + "'", old.house(n) >= 0);
            for (int d = 0; d < doors; d++) {
                old.door(d, 2);
                Check.due("board of door " + d + " of '" + house + "'", old.asked(), boards >> d & 1);
            }
            Check.due("last minute of '" + house + "'", old.count(3), last);
            int[][] events = {};
            for (int i = draw(24); i > 0; i--) {
                if (draw(5) == 0 && events.length > 0) {
                    int stay = draw(events.length);
                    Check.due("back(" + stay + ")", old.back(stay), events.length - stay);
                    events = java.util.Arrays.copyOf(events, stay);
                }
                int[] e = drawEvent();
                if (draw(3) == 0 && old.event(e[0], e[1], e[2], e[3]) >= 0) {
                    events = java.util.Arrays.copyOf(events, events.length + 1);
                    events[events.length - 1] = e;
                }
                if (draw(2) == 0) old.fault(draw(n + 1), draw(2) == 0);
                compare(house, old, events, drawQuestion());
            }
        }
    }

    public static void main(String[] args) {
        for (int n = 0; n < 400; n++) life();
        Check.end("HistoryTest");
    }
}
