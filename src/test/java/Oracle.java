import java.util.ArrayList;
import java.util.List;

/**
 * What the document says of ways, done the slow way: every walk of every walker is written out, every way of them is
 * looked at, and each answer is taken from the list of those that hold. It shares nothing with the class.
 */
final class Oracle {
    static final int NONE = -9;

    /** One walker's walk: rooms at minutes 0 to last, and the door passed from each minute on (-1: he stays). */
    static final class Walk {
        final int[] room;
        final int[] door;

        Walk(int[] room, int[] door) {
            this.room = room;
            this.door = door;
        }
    }

    int rooms, last;
    final List<int[]> doors = new ArrayList<>();     // a, b, board
    final List<int[]> walkers = new ArrayList<>();   // pace, rooms to begin in (bits)
    final List<int[]> events = new ArrayList<>();    // kind, a, b, t
    final List<List<Walk>> walks = new ArrayList<>();

    void writeWalks() {
        walks.clear();
        for (int[] walker : walkers) {
            List<Walk> all = new ArrayList<>();
            for (int r = 0; r < rooms; r++) {
                if ((walker[1] >> r & 1) == 0) continue;
                int[] room = new int[last + 1];
                room[0] = r;
                extend(all, walker[0], room, new int[last], 0);
            }
            walks.add(all);
        }
    }

    private void extend(List<Walk> all, int pace, int[] room, int[] door, int t) {
        if (t == last) {
            all.add(new Walk(room.clone(), door.clone()));
            return;
        }
        door[t] = -1;
        room[t + 1] = room[t];
        extend(all, pace, room, door, t + 1);
        if (pace == 2 && t > 0 && door[t - 1] >= 0) return;
        for (int d = 0; d < doors.size(); d++) {
            int a = doors.get(d)[0];
            int b = doors.get(d)[1];
            if (a != room[t] && b != room[t]) continue;
            door[t] = d;
            room[t + 1] = a == room[t] ? b : a;
            extend(all, pace, room, door, t + 1);
        }
    }

    long size() {
        long size = 1;
        for (List<Walk> all : walks) size *= all.size();
        return size;
    }

    interface Test {
        boolean holds(Walk[] way);
    }

    /** All ways of the first k walkers that a test lets through. */
    List<Walk[]> all(int k, Test test) {
        List<Walk[]> found = new ArrayList<>();
        choose(k, new Walk[k], 0, test, found);
        return found;
    }

    private void choose(int k, Walk[] way, int w, Test test, List<Walk[]> found) {
        if (w == k) {
            if (test.holds(way)) found.add(way.clone());
            return;
        }
        for (Walk walk : walks.get(w)) {
            way[w] = walk;
            choose(k, way, w + 1, test, found);
        }
    }

    private boolean somebodyIn(Walk[] way, int r, int t) {
        for (Walk walk : way) if (walk.room[t] == r) return true;
        return false;
    }

    private boolean somebodyPasses(Walk[] way, int d, int t) {
        for (Walk walk : way) if (walk.door[t] == d) return true;
        return false;
    }

    private boolean sounds(List<int[]> those, int d, int t) {
        for (int[] e : those) if (e[0] == 1 && e[1] == d && e[3] == t) return true;
        return false;
    }

    /** Whether a way is as events but sounds tell, up to a minute. */
    boolean asSeen(Walk[] way, List<int[]> those, int till) {
        for (int[] e : those) {
            int t = e[3];
            if (e[0] == 2 && t <= till && !somebodyIn(way, e[1], t)) return false;
            if (e[0] == 3 && t <= till && (e[2] >= way.length || way[e[2]].room[t] != e[1])) return false;
            if (e[0] == 4 && t <= till && somebodyIn(way, e[1], t)) return false;
            if (e[0] == 5) {
                for (int u = t; u <= e[2] && u < till; u++) if (somebodyPasses(way, e[1], u)) return false;
            }
        }
        return true;
    }

    /** Whether a way is as the sounds tell ahead of a minute; a board stuck from a minute on is not heard. */
    boolean asHeard(Walk[] way, List<int[]> those, int till, int stuck, int since) {
        for (int t = 0; t < till; t++) {
            for (int d = 0; d < doors.size(); d++) {
                if (doors.get(d)[2] == 0) continue;
                boolean heard = somebodyPasses(way, d, t) && !(d == stuck && t >= since);
                if (heard != sounds(those, d, t)) return false;
            }
        }
        return true;
    }

    boolean holds(Walk[] way, List<int[]> those, int till) {
        return asSeen(way, those, till) && asHeard(way, those, till, -1, 0);
    }

    List<Walk[]> ways() {
        return all(walkers.size(), way -> holds(way, events, last));
    }

    private boolean can(int k, Test test) {
        return !all(k, test).isEmpty();
    }

    /** The first minute till which it cannot be; NONE. */
    int could() {
        for (int t = 0; t <= last; t++) {
            int till = t;
            if (!can(walkers.size(), way -> holds(way, events, till))) return t;
        }
        return NONE;
    }

    int fewest() {
        for (int k = 0; k <= walkers.size(); k++) {
            if (can(k, way -> holds(way, events, last))) return k;
        }
        return NONE;
    }

    /** The cheapest price and its misses by the first k walkers; null: none. */
    int[] cheapest(int k, int miss, int self) {
        int[] best = null;
        for (Walk[] way : all(k, way -> asSeen(way, events, last))) {
            int misses = 0;
            int selfs = 0;
            for (int t = 0; t < last; t++) {
                for (int d = 0; d < doors.size(); d++) {
                    if (doors.get(d)[2] == 0) continue;
                    boolean passed = somebodyPasses(way, d, t);
                    boolean sound = sounds(events, d, t);
                    if (passed && !sound) misses++;
                    if (sound && !passed) selfs++;
                }
            }
            int price = misses * miss + selfs * self;
            if (best == null || price < best[0] || price == best[0] && misses < best[1]) best = new int[] {price, misses};
        }
        return best;
    }

    int stuck() {
        for (int d = 0; d < doors.size(); d++) {
            if (doors.get(d)[2] == 0) continue;
            for (int s = last - 1; s >= 0; s--) {
                int stuck = d;
                int since = s;
                boolean later = false;
                for (int t = s; t < last; t++) later |= sounds(events, d, t);
                if (later) continue;
                if (can(walkers.size(), way -> asSeen(way, events, last) && asHeard(way, events, last, stuck, since))) {
                    return 100 * d + s;
                }
            }
        }
        return NONE;
    }

    /** Which events stay (bits). */
    long quarrel() {
        List<int[]> those = new ArrayList<>(events);
        long stay = (1L << events.size()) - 1;
        for (int e = 0; e < events.size(); e++) {
            List<int[]> fewer = new ArrayList<>(those);
            fewer.remove(events.get(e));
            if (!can(walkers.size(), way -> holds(way, fewer, last))) {
                those = fewer;
                stay &= ~(1L << e);
            }
        }
        return stay;
    }
}
