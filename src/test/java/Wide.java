import java.math.BigInteger;
import java.util.ArrayList;
import java.util.Arrays;
import java.util.HashMap;
import java.util.HashSet;
import java.util.List;
import java.util.Map;
import java.util.Set;

/**
 * What the document says of ways, minute by minute, for houses too large to write out every way. A joint state is one
 * number: for each walker twice his room, and one more, if he must stay; each times 12. It shares nothing with the class.
 */
final class Wide {
    static final int NONE = -9;
    private static final int BASE = 12;

    int rooms, last;
    final List<int[]> doors = new ArrayList<>();     // a, b, board
    final List<int[]> walkers = new ArrayList<>();   // pace, rooms to begin in (bits)
    final List<int[]> events = new ArrayList<>();    // kind, a, b, t

    // Of the night as it is told: the states that belong to ways, and of each minute the steps between them.
    final List<Set<Integer>> living = new ArrayList<>();
    final List<List<int[]>> steps = new ArrayList<>();
    int could;

    static int room(int state, int w) {
        return state / power(w) % BASE / 2;
    }

    private static boolean tired(int state, int w) {
        return state / power(w) % 2 == 1;
    }

    private static int power(int w) {
        return w == 0 ? 1 : w == 1 ? BASE : BASE * BASE;
    }

    /** The boards that count, and whether they count at all: a board that is stuck from a minute on is not heard. */
    private static final class Ears {
        final boolean loose;
        final int stuck, since;

        Ears(boolean loose, int stuck, int since) {
            this.loose = loose;
            this.stuck = stuck;
            this.since = since;
        }
    }

    private static final Ears PLAIN = new Ears(false, -1, 0), LOOSE = new Ears(true, -1, 0);

    private boolean seenSo(int state, int k, List<int[]> those, int t) {
        for (int[] e : those) {
            if (e[3] != t || e[0] == 1 || e[0] == 5) continue;
            boolean some = false;
            for (int w = 0; w < k; w++) some |= room(state, w) == e[1];
            if (e[0] == 2 && !some || e[0] == 4 && some) return false;
            if (e[0] == 3 && (e[2] >= k || room(state, e[2]) != e[1])) return false;
        }
        return true;
    }

    private boolean isShut(List<int[]> those, int d, int t) {
        for (int[] e : those) if (e[0] == 5 && e[1] == d && e[3] <= t && t <= e[2]) return true;
        return false;
    }

    boolean sounds(List<int[]> those, int d, int t) {
        for (int[] e : those) if (e[0] == 1 && e[1] == d && e[3] == t) return true;
        return false;
    }

    private boolean heardSo(int[] step, List<int[]> those, int t, Ears ears) {
        if (ears.loose) return true;
        for (int d = 0; d < doors.size(); d++) {
            if (doors.get(d)[2] == 0) continue;
            boolean passed = step[2] == d || step[3] == d || step[4] == d;
            boolean heard = passed && !(d == ears.stuck && t >= ears.since);
            if (heard != sounds(those, d, t)) return false;
        }
        return true;
    }

    private Set<Integer> beginnings(int k, List<int[]> those) {
        Set<Integer> all = new HashSet<>();
        all.add(0);
        for (int w = 0; w < k; w++) {
            Set<Integer> more = new HashSet<>();
            for (int state : all) {
                for (int r = 0; r < rooms; r++) if ((walkers.get(w)[1] >> r & 1) != 0) more.add(state + 2 * r * power(w));
            }
            all = more;
        }
        all.removeIf(state -> !seenSo(state, k, those, 0));
        return all;
    }

    /** All steps {from, to, doors of walkers 0 to 2 (-1: he stays)} out of a state. */
    private List<int[]> stepsOf(int state, int k, List<int[]> those, int t, Ears ears) {
        List<int[]> open = new ArrayList<>();
        open.add(new int[] {state, 0, -1, -1, -1});
        for (int w = 0; w < k; w++) {
            List<int[]> more = new ArrayList<>();
            for (int[] step : open) {
                more.add(with(step, w, 2 * room(state, w), -1));
                for (int d = 0; d < doors.size() && !tired(state, w); d++) {
                    int a = doors.get(d)[0];
                    int b = doors.get(d)[1];
                    if (a != room(state, w) && b != room(state, w) || isShut(those, d, t)) continue;
                    int other = a == room(state, w) ? b : a;
                    more.add(with(step, w, 2 * other + walkers.get(w)[0] - 1, d));
                }
            }
            open = more;
        }
        open.removeIf(step -> !heardSo(step, those, t, ears) || !seenSo(step[1], k, those, t + 1));
        return open;
    }

    private static int[] with(int[] step, int w, int place, int door) {
        int[] more = step.clone();
        more[1] += place * power(w);
        more[2 + w] = door;
        return more;
    }

    /** The first minute till which it cannot be so, or NONE. */
    private int firstEmpty(int k, List<int[]> those, Ears ears, List<List<int[]>> keep) {
        Set<Integer> now = beginnings(k, those);
        for (int t = 0; t < last && !now.isEmpty(); t++) {
            List<int[]> all = new ArrayList<>();
            Set<Integer> next = new HashSet<>();
            for (int state : now) {
                for (int[] step : stepsOf(state, k, those, t, ears)) {
                    next.add(step[1]);
                    if (keep != null) all.add(step);
                }
            }
            if (keep != null) keep.add(all);
            if (next.isEmpty()) return t + 1;
            now = next;
        }
        return now.isEmpty() ? 0 : NONE;
    }

    /** Looks at the night as it is told: what is asked of ways is told from here on. */
    void search() {
        steps.clear();
        living.clear();
        could = firstEmpty(walkers.size(), events, PLAIN, steps);
        if (could != NONE) return;
        for (int t = 0; t <= last; t++) living.add(new HashSet<>());
        if (last > 0) for (int[] step : steps.get(last - 1)) living.get(last).add(step[1]);
        for (int t = last - 1; t >= 0; t--) {
            Set<Integer> next = living.get(t + 1);
            steps.get(t).removeIf(step -> !next.contains(step[1]));
            for (int[] step : steps.get(t)) living.get(t).add(step[0]);
        }
    }

    /** How many ways come to each state of a minute. */
    private Map<Integer, BigInteger> comings(int t) {
        Map<Integer, BigInteger> now = new HashMap<>();
        for (int state : living.get(0)) now.put(state, BigInteger.ONE);
        for (int u = 0; u < t; u++) {
            Map<Integer, BigInteger> next = new HashMap<>();
            for (int[] step : steps.get(u)) if (now.containsKey(step[0])) next.merge(step[1], now.get(step[0]), BigInteger::add);
            now = next;
        }
        return now;
    }

    private Map<Integer, BigInteger> goings(int t) {
        Map<Integer, BigInteger> now = new HashMap<>();
        for (int state : living.get(last)) now.put(state, BigInteger.ONE);
        for (int u = last - 1; u >= t; u--) {
            Map<Integer, BigInteger> ahead = new HashMap<>();
            for (int[] step : steps.get(u)) if (now.containsKey(step[1])) ahead.merge(step[0], now.get(step[1]), BigInteger::add);
            now = ahead;
        }
        return now;
    }

    interface Test {
        boolean holds(int state);
    }

    BigInteger ways(int t, Test test) {
        Map<Integer, BigInteger> come = comings(t);
        Map<Integer, BigInteger> go = goings(t);
        BigInteger sum = BigInteger.ZERO;
        for (int state : living.get(t)) if (test.holds(state)) sum = sum.add(come.get(state).multiply(go.get(state)));
        return sum;
    }

    int inRoom(int state, int r) {
        int many = 0;
        for (int w = 0; w < walkers.size(); w++) if (room(state, w) == r) many++;
        return many;
    }

    /** 0 never, 1 may, 2 must; and the first minute. */
    int[] met(int w, int other) {
        int first = NONE;
        for (int t = last; t >= 0; t--) {
            for (int state : living.get(t)) if (room(state, w) == room(state, other)) first = t;
        }
        Set<Integer> apart = new HashSet<>(living.get(0));
        apart.removeIf(state -> room(state, w) == room(state, other));
        for (int t = 0; t < last; t++) {
            Set<Integer> next = new HashSet<>();
            for (int[] step : steps.get(t)) {
                if (apart.contains(step[0]) && room(step[1], w) != room(step[1], other)) next.add(step[1]);
            }
            apart = next;
        }
        return new int[] {first == NONE ? 0 : apart.isEmpty() ? 2 : 1, first};
    }

    int still(int w, int n) {
        Set<Integer> now = new HashSet<>();
        for (int state : living.get(0)) now.add(state * 64);
        for (int t = 0; t < last; t++) {
            Map<Integer, List<int[]>> from = new HashMap<>();
            for (int[] step : steps.get(t)) from.computeIfAbsent(step[0], s -> new ArrayList<>()).add(step);
            Set<Integer> next = new HashSet<>();
            for (int one : now) {
                for (int[] step : from.get(one / 64)) {
                    int stood = one % 64;
                    if (stood < n) stood = step[2 + w] < 0 ? stood + 1 : 0;
                    next.add(step[1] * 64 + stood);
                }
            }
            now = next;
        }
        boolean some = false;
        boolean all = true;
        for (int one : now) {
            some |= one % 64 == n;
            all &= one % 64 == n;
        }
        return all ? 2 : some ? 1 : 0;
    }

    int judge(int w, int[] told) {
        Set<Integer> now = new HashSet<>(living.get(0));
        for (int t = 0; t <= last; t++) {
            if (t > 0) now = nextOf(now, t - 1);
            int room = told[t];
            now.removeIf(state -> room(state, w) != room);
            if (now.isEmpty()) return t;
        }
        return NONE;
    }

    int[] way(int w) {
        int[] rows = new int[last + 1];
        Set<Integer> now = new HashSet<>(living.get(0));
        for (int t = 0; t <= last; t++) {
            if (t > 0) now = nextOf(now, t - 1);
            int least = rooms;
            for (int state : now) least = Math.min(least, room(state, w));
            int room = least;
            now.removeIf(state -> room(state, w) != room);
            rows[t] = least;
        }
        return rows;
    }

    private Set<Integer> nextOf(Set<Integer> now, int t) {
        Set<Integer> next = new HashSet<>();
        for (int[] step : steps.get(t)) if (now.contains(step[0])) next.add(step[1]);
        return next;
    }

    /** Whether it may, whether it must be that some (w below 0), or that walker, pass a door from a minute on. */
    boolean[] passed(int d, int t, int w) {
        boolean may = false;
        boolean must = true;
        for (int[] step : steps.get(t)) {
            boolean so = w >= 0 ? step[2 + w] == d : step[2] == d || step[3] == d || step[4] == d;
            may |= so;
            must &= so;
        }
        return new boolean[] {may, must};
    }

    int fewest() {
        for (int k = 0; k <= walkers.size(); k++) if (firstEmpty(k, events, PLAIN, null) == NONE) return k;
        return NONE;
    }

    /** The cheapest price and its misses by the first k walkers; null: none. */
    int[] cheapest(int k, int miss, int self) {
        Map<Integer, int[]> now = new HashMap<>();
        for (int state : beginnings(k, events)) now.put(state, new int[2]);
        for (int t = 0; t < last; t++) {
            Map<Integer, int[]> next = new HashMap<>();
            for (Map.Entry<Integer, int[]> one : now.entrySet()) {
                for (int[] step : stepsOf(one.getKey(), k, events, t, LOOSE)) {
                    int[] price = one.getValue().clone();
                    pay(price, step, t, miss, self);
                    next.merge(step[1], price, (a, b) -> Arrays.compare(a, b) <= 0 ? a : b);
                }
            }
            now = next;
        }
        int[] best = null;
        for (int[] price : now.values()) if (best == null || Arrays.compare(price, best) < 0) best = price;
        return best;
    }

    private void pay(int[] price, int[] step, int t, int miss, int self) {
        for (int d = 0; d < doors.size(); d++) {
            if (doors.get(d)[2] == 0) continue;
            boolean passed = step[2] == d || step[3] == d || step[4] == d;
            boolean sound = sounds(events, d, t);
            if (sound && !passed) price[0] += self;
            if (passed && !sound) {
                price[0] += miss;
                price[1]++;
            }
        }
    }

    int stuck() {
        for (int d = 0; d < doors.size(); d++) {
            for (int s = last - 1; s >= 0 && doors.get(d)[2] == 1; s--) {
                boolean later = false;
                for (int t = s; t < last; t++) later |= sounds(events, d, t);
                if (!later && firstEmpty(walkers.size(), events, new Ears(false, d, s), null) == NONE) return 100 * d + s;
            }
        }
        return NONE;
    }

    long quarrel() {
        List<int[]> those = new ArrayList<>(events);
        long stay = (1L << events.size()) - 1;
        for (int e = 0; e < events.size(); e++) {
            List<int[]> fewer = new ArrayList<>(those);
            fewer.remove(events.get(e));
            if (firstEmpty(walkers.size(), fewer, PLAIN, null) != NONE) {
                those = fewer;
                stay &= ~(1L << e);
            }
        }
        return stay;
    }
}
