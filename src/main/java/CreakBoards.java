/**
 * Two boards that creak: a dark house, walkers nobody sees, and a night of sounds and sightings. What can have been is
 * searched for over all WALKERS at once, minute by minute; see README.md.
 */
public final class CreakBoards {
    public static final int BAD = -1, FULL = -2, FINDING = -3, STATE = -4, SPENT = -6, NONE = -9;

    private static final int NOTHING = 1, BEYOND = 2, UNLIKE = 3, NOUGHT = 4, SIZE = 5;
    private static final int SOUND = 1, SEEN = 2, THIS = 3, BARE = 4, SHUT = 5;

    private static final int ROW_SIZE = 40, TEXT_SIZE = 80, BLANK = 32;
    private static final int ROOMS = 6, DOORS = 8, WALKERS = 3, EVENTS = 24, MINUTES = 31;
    private static final int ALL_FIGURES = 1023;

    // A WALKER has at most two states a ROOM (rested, or just through a DOOR), all WALKERS together these many.
    private static final int STATES = 2 * ROOMS, JOINT = STATES * STATES * STATES, SET_WORDS = JOINT / 64;
    // SPOTS are one number: for each WALKER the bit of his ROOM, ROOMS bits apart, and above them the bits of all ROOMS in
    // which somebody is (HELD says how far up). EACH has the lowest bit of each WALKER.
    private static final int ROOM_BITS = (1 << ROOMS) - 1, EACH = 1 + (1 << ROOMS) + (1 << 2 * ROOMS);
    private static final int HELD = WALKERS * ROOMS, HELD_BITS = ROOM_BITS << HELD;
    // A WALKER's moves: to stay in each of his states, and each DOOR from both of its sides.
    private static final int MOVES = STATES + 2 * DOORS;

    private static final long MOST_WAYS = 1000000000000000L, TOO_MANY = MOST_WAYS + 1;
    // A CHEAPEST is kept as so many times its price, and its MISSES (90 at most).
    private static final long PRICE_UNIT = 1024L;

    // What a sweep over the steps of a minute gathers.
    private static final int COUNT = 0, STANDING = 1, LEAST = 2, MOST = 3, ENDS = 4, LIVING = 5;

    private final Shelf rows, texts;
    private final Reader reader;
    private final Walks walks;
    private final Plan plan, trial;
    private final Night night, spareNight;
    private House house, spareHouse;
    // Whether plan and walks know this night; whether they know its WAYS, too; the first minute till which it cannot be.
    private boolean searched, lived;
    private int astray;
    private int latestAsked, latestFinding;
    private final int[] findingCounts;
    private long latestMany, latestUpper, latestLower;

    public CreakBoards() {
        rows = new Shelf(6, ROW_SIZE);
        texts = new Shelf(4, TEXT_SIZE);
        reader = new Reader();
        walks = new Walks();
        house = new House();
        spareHouse = new House();
        plan = new Plan(house);
        trial = new Plan(house);
        night = new Night();
        spareNight = new Night();
        findingCounts = new int[6];
        latestLower = 1L;
    }

    // ---- 1 rows, texts, houses, nights

    public int row(int r, int n) {
        if (!rows.names(r) || n > ROW_SIZE) return BAD;
        if (n < 0) return found(SIZE);
        rows.make(r, n, 0);
        return n;
    }

    public int lay(int r, int i, int v) {
        if (!rows.names(r)) return BAD;
        if (rows.lacks(r)) return found(NOTHING);
        if (!rows.holds(r, i)) return found(BEYOND);
        return tell(rows.exchange(r, i, v));
    }

    public int at(int r, int i) {
        if (!rows.names(r)) return BAD;
        if (rows.lacks(r)) return found(NOTHING);
        if (!rows.holds(r, i)) return found(BEYOND);
        return tell(rows.lists[r][i]);
    }

    public int tear(int r) {
        if (!rows.names(r)) return BAD;
        if (rows.lacks(r)) return found(NOTHING);
        rows.sizes[r] = -1;
        return 1;
    }

    public int copy(int r, int i, int to, int j, int n) {
        if (!rows.names(r) || !rows.names(to)) return BAD;
        if (n < 0) return found(SIZE);
        if (rows.lacks(r) || rows.lacks(to)) return found(NOTHING);
        if (!rows.spans(r, i, n) || !rows.spans(to, j, n)) return found(BEYOND);
        System.arraycopy(rows.lists[r], i, rows.lists[to], j, n);
        return 1;
    }

    public int mean(int r) {
        if (!rows.names(r)) return BAD;
        if (rows.lacks(r)) return found(NOTHING);
        int size = rows.sizes[r];
        if (size < 1) return found(NOUGHT);
        long sum = 0L;
        for (int i = 0; i < size; i++) sum += rows.lists[r][i];
        return tell((int) (sum / size));
    }

    public int text(int t, int n) {
        if (!texts.names(t) || n > TEXT_SIZE) return BAD;
        if (n < 0) return found(SIZE);
        texts.make(t, n, BLANK);
        return n;
    }

    public int put(int t, int i, int v) {
        if (!texts.names(t)) return BAD;
        if (texts.lacks(t)) return found(NOTHING);
        if (!texts.holds(t, i)) return found(BEYOND);
        return texts.exchange(t, i, (byte) v) + 1000;
    }

    public int fault(int t, boolean night) {
        if (!texts.names(t)) return BAD;
        if (texts.lacks(t)) return found(NOTHING);
        return night ? faultOfNight(t) : faultOfHouse(t);
    }

    public int house(int t) {
        if (!texts.names(t)) return BAD;
        if (texts.lacks(t)) return found(NOTHING);
        if (faultOfHouse(t) != NONE) return STATE;
        House old = house;
        house = spareHouse;
        spareHouse = old;
        night.events = 0;
        searched = false;
        return house.doors;
    }

    public int night(int t) {
        if (!texts.names(t)) return BAD;
        if (texts.lacks(t)) return found(NOTHING);
        if (faultOfNight(t) != NONE) return STATE;
        if (night.events + spareNight.events > EVENTS) return FULL;
        for (int e = 0; e < spareNight.events; e++) night.addFrom(spareNight, e);
        searched = false;
        return spareNight.events;
    }

    public int event(int kind, int a, int b, int t) {
        if (!house.allows(kind, a, b, t)) return BAD;
        if (night.events >= EVENTS) return FULL;
        night.add(kind, a, kind == THIS || kind == SHUT ? b : 0, t);
        searched = false;
        return night.events - 1;
    }

    public int back(int n) {
        if (n < 0 || n > night.events) return BAD;
        int gone = night.events - n;
        night.events = n;
        searched = false;
        return gone;
    }

    public int told(int e, int what) {
        if (!night.names(e) || what < 0 || what > 3) return BAD;
        return tell(night.item(e, what));
    }

    public int mark(int e, int kind) {
        if (!night.names(e) || kind < SOUND || kind > SHUT) return BAD;
        if (!night.isOf(e, kind)) return found(UNLIKE);
        if (kind == THIS) return night.other[e];
        if (kind == SHUT) return night.other[e] - night.minute[e] + 1;
        return night.thing[e];
    }

    public int door(int d, int what) {
        if (!house.hasDoor(d) || what < 0 || what > 2) return BAD;
        return tell(house.doorItem(d, what));
    }

    public int walker(int w, int what) {
        if (!house.hasWalker(w) || what < 0 || what > 1) return BAD;
        return tell(what == 0 ? house.pace[w] : house.begin[w]);
    }

    // ---- 2 ways

    public int could() {
        if (canBe()) return 1;
        latestAsked = astray;
        return 0;
    }

    public int fewest() {
        for (int k = 0; k <= house.walkers; k++) {
            trial.make(house, k, house.boards);
            trial.take(night, 0);
            if (walks.firstEmpty(trial, false) == NONE) return k;
        }
        return NONE;
    }

    public int ways() {
        long all = 0L;
        if (knowsWays()) {
            walks.weigh(plan, house.last);
            all = walks.waysIn(plan, 0);
        }
        if (all > MOST_WAYS) return SPENT;
        latestMany = all;
        return all > 0L ? 1 : 0;
    }

    public int rooms(int r, int t) {
        if (!house.hasRoom(r) || !house.hasMinute(t)) return BAD;
        if (!knowsWays()) return found(NOUGHT);
        latestAsked = walks.mostIn(plan, t, EACH << r);
        return walks.fewestIn(plan, t, EACH << r);
    }

    public int empty(int t) {
        if (!house.hasMinute(t)) return BAD;
        if (!knowsWays()) return found(NOUGHT);
        latestAsked = walks.mustBe(plan, t) >> HELD;
        return house.roomBits() & ~(walks.mayBe(plan, t) >> HELD);
    }

    public int where(int w, int t) {
        if (!house.hasWalker(w) || !house.hasMinute(t)) return BAD;
        if (!knowsWays()) return found(NOUGHT);
        return roomsOf(walks.mayBe(plan, t), w);
    }

    public int met(int w, int other) {
        if (!house.hasWalker(w) || !house.hasWalker(other) || w == other) return BAD;
        if (!knowsWays()) return found(NOUGHT);
        latestAsked = walks.firstMeeting(plan, w, other);
        if (latestAsked == NONE) return 0;
        return walks.stayApart(plan, w, other) ? 1 : 2;
    }

    public int still(int w, int n) {
        if (!house.hasWalker(w) || n < 1 || n > 30) return BAD;
        if (!knowsWays()) return found(NOUGHT);
        long ends = walks.standings(plan, w, n);
        long stood = 1L << n;
        if ((ends & stood) == 0L) return 0;
        return ends == stood ? 2 : 1;
    }

    public int judge(int w, int r) {
        if (!house.hasWalker(w) || !rows.names(r)) return BAD;
        if (rows.lacks(r)) return found(NOTHING);
        if (rows.sizes[r] != house.last + 1) return found(SIZE);
        for (int t = 0; t <= house.last; t++) {
            if (!house.hasRoom(rows.lists[r][t])) return found(UNLIKE);
        }
        if (!knowsWays()) return found(NOUGHT);
        return walks.firstWrong(plan, w, rows.lists[r]);
    }

    public int way(int w, int r) {
        if (!house.hasWalker(w) || !rows.names(r)) return BAD;
        if (!knowsWays()) return found(NOUGHT);
        rows.make(r, house.last + 1, 0);
        walks.firstWalk(plan, w, rows.lists[r]);
        return house.last + 1;
    }

    // ---- 3 whose, chances

    public int whose(int e) {
        if (!night.names(e)) return BAD;
        if (!night.isOf(e, SOUND)) return found(UNLIKE);
        if (!knowsWays()) return found(NOUGHT);
        int door = night.thing[e];
        int t = night.minute[e];
        latestAsked = walks.walkersThrough(walks.must, door, t);
        return walks.walkersThrough(walks.may, door, t);
    }

    public int same(int e) {
        if (!night.names(e)) return BAD;
        if (!night.isOf(e, SEEN)) return found(UNLIKE);
        if (!knowsWays()) return found(NOUGHT);
        int room = night.thing[e];
        int t = night.minute[e];
        latestAsked = walkersIn(walks.mustBe(plan, t), room);
        return walkersIn(walks.mayBe(plan, t), room);
    }

    public int passes(int d) {
        if (!house.hasDoor(d)) return BAD;
        if (!knowsWays()) return found(NOUGHT);
        latestAsked = walks.minutesOf(walks.mustSome, d, house.last);
        return walks.minutesOf(walks.maySome, d, house.last);
    }

    public int third() {
        if (!knowsWays()) return found(NOUGHT);
        int best = NONE;
        int most = -1;
        for (int d = 0; d < house.doors; d++) {
            int open = walks.minutesOf(walks.maySome, d, house.last) - walks.minutesOf(walks.mustSome, d, house.last);
            if (!house.hasBoard(d) && open > most) {
                best = d;
                most = open;
            }
        }
        if (best != NONE) latestAsked = most;
        return best;
    }

    public int chance(int r, int t) {
        if (!house.hasRoom(r) || !house.hasMinute(t)) return BAD;
        if (!knowsWays()) return found(NOUGHT);
        walks.weigh(plan, t);
        long all = walks.waysIn(plan, 0);
        if (all > MOST_WAYS) return SPENT;
        tellPart(walks.waysIn(plan, EACH << r), all);
        return 1;
    }

    public int likely(int w, int t) {
        if (!house.hasWalker(w) || !house.hasMinute(t)) return BAD;
        if (!knowsWays()) return found(NOUGHT);
        walks.weigh(plan, t);
        long all = walks.waysIn(plan, 0);
        if (all > MOST_WAYS) return SPENT;
        int best = 0;
        long most = -1L;
        for (int r = 0; r < house.rooms; r++) {
            long here = walks.waysIn(plan, roomBit(w, r));
            if (here > most) {
                best = r;
                most = here;
            }
        }
        tellPart(most, all);
        return best;
    }

    // ---- 4 loose nights, stuck boards, quarrels

    public int cheapest(int miss, int self) {
        if (!isPrice(miss) || !isPrice(self)) return BAD;
        long least = leastBy(house.walkers, miss, self);
        if (least < 0L) return NONE;
        latestAsked = (int) (least % PRICE_UNIT);
        return (int) (least / PRICE_UNIT);
    }

    public int settle(int miss, int self, int head) {
        if (!isPrice(miss) || !isPrice(self) || !isPrice(head)) return BAD;
        int best = NONE;
        int sum = 0;
        for (int k = 0; k <= house.walkers; k++) {
            long least = leastBy(k, miss, self);
            int price = (int) (least / PRICE_UNIT) + k * head;
            if (least >= 0L && (best == NONE || price < sum)) {
                best = k;
                sum = price;
            }
        }
        if (best != NONE) latestAsked = sum;
        return best;
    }

    public int stuck() {
        if (canBe()) return STATE;
        for (int d = 0; d < house.doors; d++) {
            int since = house.hasBoard(d) ? stuckSince(d) : NONE;
            if (since != NONE) return 100 * d + since;
        }
        return NONE;
    }

    public int quarrel() {
        if (canBe()) return STATE;
        int leftOut = 0;
        for (int e = 0; e < night.events; e++) {
            trial.make(house, house.walkers, house.boards);
            trial.take(night, leftOut | 1 << e);
            if (walks.firstEmpty(trial, false) != NONE) leftOut |= 1 << e;
        }
        int stays = ((1 << night.events) - 1) & ~leftOut;
        latestMany = stays;
        return Integer.bitCount(stays);
    }

    // ---- 5 what is told

    public int asked() {
        return latestAsked;
    }

    public long many() {
        return latestMany;
    }

    public long upper() {
        return latestUpper;
    }

    public long lower() {
        return latestLower;
    }

    public int count(int what) {
        switch (what) {
            case 0: return house.rooms;
            case 1: return house.doors;
            case 2: return house.walkers;
            case 3: return house.last;
            case 4: return night.events;
            case 5: return night.sightings();
            case 6: return rows.standing();
            case 7: return texts.standing();
            default: return BAD;
        }
    }

    public int finding() {
        return latestFinding;
    }

    public int findings(int f) {
        if (f < NOTHING || f > SIZE) return BAD;
        return findingCounts[f];
    }

    public long digest() {
        long h = 17L;
        for (int what = 0; what <= 7; what++) h = 31L * h + count(what);
        h = house.digested(h);
        h = night.digested(h);
        h = rows.digested(h);
        return texts.digested(h);
    }

    // ---- what the calls share

    private int found(int what) {
        latestFinding = what;
        findingCounts[what]++;
        return FINDING;
    }

    private int tell(int value) {
        latestAsked = value;
        return 1;
    }

    private void tellPart(long part, long all) {
        long a = all;
        long b = part;
        // Euclid's steps on numbers below 2 to the 50th are fewer than 80.
        for (int i = 0; i < 100 && b != 0L; i++) {
            long rest = a % b;
            a = b;
            b = rest;
        }
        if (a == 0L) return;
        latestUpper = part / a;
        latestLower = all / a;
    }

    private int faultOfHouse(int t) {
        reader.open(texts.lists[t], texts.sizes[t]);
        reader.readHouse(spareHouse);
        return reader.failed ? reader.place : NONE;
    }

    private int faultOfNight(int t) {
        reader.open(texts.lists[t], texts.sizes[t]);
        reader.readNight(house, spareNight);
        return reader.failed ? reader.place : NONE;
    }

    private boolean canBe() {
        if (!searched) {
            plan.make(house, house.walkers, house.boards);
            plan.take(night, 0);
            astray = walks.firstEmpty(plan, true);
            searched = true;
            lived = false;
        }
        return astray == NONE;
    }

    /** Whether there are WAYS; if so, walks knows them from here on. */
    private boolean knowsWays() {
        if (!canBe()) return false;
        if (!lived) walks.live(plan);
        lived = true;
        return true;
    }

    /** The CHEAPEST of the first k WALKERS with its MISSES, as PRICE_UNIT says; below 0, if there is none. */
    private long leastBy(int k, int miss, int self) {
        trial.make(house, k, 0);
        trial.take(night, 0);
        return walks.least(trial, miss, self);
    }

    private int stuckSince(int d) {
        trial.make(house, house.walkers, house.boards & ~(1 << d));
        trial.take(night, 0);
        int first = 0;
        for (int t = 0; t < house.last; t++) {
            if ((trial.sounds[t] >> d & 1) != 0) first = t + 1;
        }
        return walks.lastSince(trial, first, astray);
    }

    private static boolean isPrice(int price) {
        return price >= 0 && price <= 99;
    }

    private static int roomBit(int w, int r) {
        return 1 << ROOMS * w + r;
    }

    private static int roomsOf(int spots, int w) {
        return spots >> ROOMS * w & ROOM_BITS;
    }

    private static int leastOf(int rooms) {
        int least = 0;
        while (least < ROOMS - 1 && (rooms >> least & 1) == 0) least++;
        return least;
    }

    private static int walkersIn(int spots, int r) {
        int bits = 0;
        for (int w = 0; w < WALKERS; w++) bits |= (spots >> ROOMS * w + r & 1) << w;
        return bits;
    }

    private static long capped(long ways) {
        return ways > TOO_MANY ? TOO_MANY : ways;
    }

    /** Numbered lists of numbers, each there or missing (size -1): the ROWS, and the TEXTS as numbers -128 .. 127. */
    private static final class Shelf {
        final int[][] lists;
        final int[] sizes;

        Shelf(int many, int width) {
            lists = new int[many][width];
            sizes = new int[many];
            for (int n = 0; n < many; n++) sizes[n] = -1;
        }

        boolean names(int n) {
            return n >= 0 && n < sizes.length;
        }

        boolean lacks(int n) {
            return sizes[n] < 0;
        }

        boolean holds(int n, int i) {
            return i >= 0 && i < sizes[n];
        }

        boolean spans(int n, int i, int many) {
            return i >= 0 && i <= sizes[n] - many;
        }

        void make(int n, int size, int value) {
            sizes[n] = size;
            for (int i = 0; i < size; i++) lists[n][i] = value;
        }

        int exchange(int n, int i, int value) {
            int old = lists[n][i];
            lists[n][i] = value;
            return old;
        }

        int standing() {
            int many = 0;
            for (int n = 0; n < sizes.length; n++) {
                if (sizes[n] >= 0) many++;
            }
            return many;
        }

        long digested(long h) {
            for (int n = 0; n < sizes.length; n++) {
                h = 31L * h + sizes[n];
                for (int i = 0; i < sizes[n]; i++) h = 31L * h + lists[n][i];
            }
            return h;
        }
    }

    private static final class House {
        int rooms, doors, walkers, last;
        // DOORS with a BOARD.
        int boards;
        final int[] lesser, greater, pace, begin;

        House() {
            lesser = new int[DOORS];
            greater = new int[DOORS];
            pace = new int[WALKERS];
            begin = new int[WALKERS];
            clear();
        }

        void clear() {
            rooms = 1;
            doors = 0;
            walkers = 0;
            last = 12;
            boards = 0;
        }

        void addDoor(int a, int b, boolean board) {
            if (doors >= DOORS) return;
            lesser[doors] = Math.min(a, b);
            greater[doors] = Math.max(a, b);
            if (board) boards |= 1 << doors;
            doors++;
        }

        void addWalker(int itsPace, int mayBegin) {
            if (walkers >= WALKERS) return;
            pace[walkers] = itsPace;
            begin[walkers] = mayBegin;
            walkers++;
        }

        boolean hasRoom(int r) {
            return r >= 0 && r < rooms;
        }

        boolean hasDoor(int d) {
            return d >= 0 && d < doors;
        }

        boolean hasBoard(int d) {
            return hasDoor(d) && (boards >> d & 1) != 0;
        }

        boolean hasWalker(int w) {
            return w >= 0 && w < walkers;
        }

        boolean hasMinute(int t) {
            return t >= 0 && t <= last;
        }

        int roomBits() {
            return (1 << rooms) - 1;
        }

        int doorBits() {
            return (1 << doors) - 1;
        }

        int walkerBits() {
            return (1 << walkers) - 1;
        }

        /** Whether an EVENT may be told so. */
        boolean allows(int kind, int a, int b, int t) {
            switch (kind) {
                case SOUND: return hasBoard(a) && t >= 0 && t < last;
                case SEEN: return hasRoom(a) && hasMinute(t);
                case THIS: return hasRoom(a) && hasWalker(b) && hasMinute(t);
                case BARE: return hasRoom(a) && hasMinute(t);
                case SHUT: return hasDoor(a) && t >= 0 && b >= t && b < last;
                default: return false;
            }
        }

        /** The ROOM behind a DOOR of a ROOM; below 0, if it is no DOOR of it. */
        int behind(int d, int room) {
            if (lesser[d] == room) return greater[d];
            return greater[d] == room ? lesser[d] : -1;
        }

        int doorItem(int d, int what) {
            if (what == 0) return lesser[d];
            return what == 1 ? greater[d] : boards >> d & 1;
        }

        long digested(long h) {
            for (int d = 0; d < doors; d++) {
                for (int what = 0; what <= 2; what++) h = 31L * h + doorItem(d, what);
            }
            for (int w = 0; w < walkers; w++) {
                h = 31L * h + pace[w];
                h = 31L * h + begin[w];
            }
            return h;
        }
    }

    /** EVENTS, in their order. */
    private static final class Night {
        int events;
        final int[] kind, thing, other, minute;

        Night() {
            kind = new int[EVENTS];
            thing = new int[EVENTS];
            other = new int[EVENTS];
            minute = new int[EVENTS];
        }

        void add(int itsKind, int a, int b, int t) {
            if (events >= EVENTS) return;
            kind[events] = itsKind;
            thing[events] = a;
            other[events] = b;
            minute[events] = t;
            events++;
        }

        void addFrom(Night from, int e) {
            add(from.kind[e], from.thing[e], from.other[e], from.minute[e]);
        }

        boolean names(int e) {
            return e >= 0 && e < events;
        }

        boolean isOf(int e, int aKind) {
            return kind[e] == aKind || aKind == SEEN && kind[e] == THIS;
        }

        int item(int e, int what) {
            switch (what) {
                case 0: return kind[e];
                case 1: return thing[e];
                case 2: return other[e];
                default: return minute[e];
            }
        }

        int sightings() {
            int many = 0;
            for (int e = 0; e < events; e++) {
                if (isOf(e, SEEN)) many++;
            }
            return many;
        }

        long digested(long h) {
            for (int e = 0; e < events; e++) {
                for (int what = 0; what <= 3; what++) h = 31L * h + item(e, what);
            }
            return h;
        }
    }

    /** Reads a TEXT from its beginning on; where it can't go on it has failed, and stays at that place. */
    private static final class Reader {
        int[] text;
        int size, place;
        boolean failed;

        Reader() {
            text = new int[0];
        }

        void open(int[] itsText, int itsSize) {
            text = itsText;
            size = Math.min(itsSize, itsText.length);
            place = 0;
            failed = false;
        }

        void readHouse(House house) {
            house.clear();
            findItem();
            expect('r');
            int rooms = figure((2 << ROOMS) - 2);
            if (failed) return;
            house.rooms = rooms;
            for (int i = 0; i < TEXT_SIZE && findItem(); i++) readHouseItem(house);
        }

        void readNight(House house, Night night) {
            night.events = 0;
            for (int i = 0; i < TEXT_SIZE && findItem(); i++) readEvent(house, night);
        }

        /** Goes on to where the next item is; false, if there is none. */
        private boolean findItem() {
            for (int i = 0; i < TEXT_SIZE && ahead(BLANK); i++) place++;
            return !failed && place < size;
        }

        private void readHouseItem(House house) {
            boolean door = ahead('d') || ahead('D');
            boolean walker = ahead('w');
            boolean full = door && house.doors >= DOORS || walker && house.walkers >= WALKERS;
            if (full || !door && !walker && !ahead('m')) {
                failed = true;
            } else if (door) {
                readDoor(house);
            } else if (walker) {
                readWalker(house);
            } else {
                place++;
                int last = readMinute(1, MINUTES - 1);
                if (!failed) house.last = last;
            }
        }

        private void readDoor(House house) {
            boolean board = ahead('D');
            place++;
            int a = figure(house.roomBits());
            expect('-');
            int b = figure(house.roomBits() & ~(1 << a));
            if (!failed) house.addDoor(a, b, board);
        }

        private void readWalker(House house) {
            place++;
            int pace = figure(1 << 1 | 1 << 2);
            expect(':');
            int begin = house.roomBits();
            if (ahead('*')) place++;
            else begin = readRising(house.roomBits());
            if (!failed) house.addWalker(pace, begin);
        }

        private int readRising(int rooms) {
            int read = 0;
            int above = rooms;
            for (int i = 0; i <= ROOMS && (i == 0 || figureAhead()); i++) {
                int room = figure(above);
                read |= 1 << room;
                above &= ~((2 << room) - 1);
            }
            return read;
        }

        private void readEvent(House house, Night night) {
            int kind = kindAhead();
            if (kind == 0) {
                failed = true;
                return;
            }
            place++;
            int doors = kind == SOUND ? house.boards : house.doorBits();
            boolean ofDoor = kind == SOUND || kind == SHUT;
            int thing = figure(ofDoor ? doors : house.roomBits());
            int other = 0;
            if (kind == SEEN && ahead('/')) {
                place++;
                kind = THIS;
                other = figure(house.walkerBits());
            }
            expect('@');
            int latest = ofDoor ? house.last - 1 : house.last;
            int t = readMinute(0, latest);
            if (kind == SHUT) {
                expect('-');
                other = readMinute(t, latest);
            }
            if (!failed) night.add(kind, thing, other, t);
        }

        private int kindAhead() {
            if (ahead('s')) return SOUND;
            if (ahead('y')) return SEEN;
            if (ahead('n')) return BARE;
            return ahead('x') ? SHUT : 0;
        }

        private boolean ahead(int sign) {
            return !failed && place < size && text[place] == sign;
        }

        private boolean figureAhead() {
            return !failed && place < size && text[place] >= '0' && text[place] <= '9';
        }

        private void expect(int sign) {
            if (ahead(sign)) place++;
            else failed = true;
        }

        /** Reads one figure out of these (bits); 0, if it has failed. */
        private int figure(int these) {
            int value = figureAhead() ? text[place] - '0' : -1;
            if (value < 0 || (these >> value & 1) == 0) {
                failed = true;
                return 0;
            }
            place++;
            return value;
        }

        /** Reads one or two figures; what is out of these fails at the place behind. */
        private int readMinute(int from, int to) {
            int t = figure(ALL_FIGURES);
            if (figureAhead()) t = 10 * t + figure(ALL_FIGURES);
            if (t < from || t > to) failed = true;
            return failed ? 0 : t;
        }
    }

    /**
     * What is asked of walks, minute by minute: of the first WALKERS alone, of BOARDS that are looked at, without the
     * EVENTS that are left out. And the joint states: of each WALKER a state (his ROOM, or ROOMS and his ROOM more, if he
     * must stay), each times the WALKER's stride, all added.
     */
    private static final class Plan {
        House house;
        int used, heard, total;
        // Whether every THIS is of a WALKER that is used.
        boolean fit;
        final int[] sounds, shut, seen, allowed;
        final int[] states, stride, spots;

        Plan(House first) {
            house = first;
            sounds = new int[MINUTES];
            shut = new int[MINUTES];
            seen = new int[MINUTES];
            allowed = new int[MINUTES];
            states = new int[WALKERS];
            stride = new int[WALKERS];
            spots = new int[JOINT];
        }

        void make(House itsHouse, int firstWalkers, int heardBoards) {
            house = itsHouse;
            used = Math.min(firstWalkers, house.walkers);
            heard = heardBoards;
            fit = true;
            int anywhere = HELD_BITS;
            int begin = HELD_BITS;
            for (int w = 0; w < used; w++) {
                anywhere |= house.roomBits() << ROOMS * w;
                begin |= house.begin[w] << ROOMS * w;
            }
            for (int t = 0; t <= house.last; t++) {
                sounds[t] = 0;
                shut[t] = 0;
                seen[t] = 0;
                allowed[t] = t == 0 ? begin : anywhere;
            }
            shape();
        }

        private void shape() {
            total = 1;
            for (int w = 0; w < WALKERS; w++) {
                states[w] = w < used ? house.rooms * house.pace[w] : 1;
                stride[w] = total;
                total *= states[w];
            }
            int j = 0;
            for (int s2 = 0; s2 < states[2]; s2++) {
                for (int s1 = 0; s1 < states[1]; s1++) {
                    for (int s0 = 0; s0 < states[0]; s0++) {
                        spots[j] = spot(0, s0) | spot(1, s1) | spot(2, s2);
                        j++;
                    }
                }
            }
        }

        private int spot(int w, int state) {
            return w < used ? roomBit(w, roomOf(state)) | 1 << HELD + roomOf(state) : 0;
        }

        int roomOf(int state) {
            return state < house.rooms ? state : state - house.rooms;
        }

        void take(Night night, int leftOut) {
            for (int e = 0; e < night.events; e++) {
                if ((leftOut >> e & 1) == 0) takeEvent(night, e);
            }
        }

        private void takeEvent(Night night, int e) {
            int thing = 1 << night.thing[e];
            int other = night.other[e];
            int t = night.minute[e];
            switch (night.kind[e]) {
                case SOUND:
                    sounds[t] |= thing;
                    break;
                case SEEN:
                    seen[t] |= thing;
                    break;
                case THIS:
                    if (other >= used) fit = false;
                    else allowed[t] &= ~(ROOM_BITS << ROOMS * other) | thing << ROOMS * other;
                    break;
                case BARE:
                    allowed[t] &= ~(thing * EACH);
                    break;
                default:
                    for (int u = t; u <= other; u++) shut[u] |= thing;
            }
        }

        /** Whether a DOOR may be passed from a minute on, as far as one WALKER is asked. */
        boolean opens(int d, int t) {
            int silent = heard & ~sounds[t];
            return ((shut[t] | silent) >> d & 1) == 0;
        }

        boolean mayGo(int w, int room, int t) {
            return (allowed[t] >> ROOMS * w + room & 1) != 0;
        }

        /** Whether a joint state is as the EVENTS of a minute tell of ROOMS. */
        boolean fits(int j, int t) {
            return (spots[j] & ~allowed[t]) == 0 && (seen[t] << HELD & ~spots[j]) == 0;
        }
    }

    /** The moves of each WALKER from a minute on, state by state. */
    private static final class Moves {
        // Where the moves of a state begin; they end where those of the next state begin.
        final int[] first;
        // What each move adds to the joint state behind it; the DOOR it passes (a bit), or 0.
        final int[] into, door;

        Moves() {
            first = new int[WALKERS * (STATES + 1)];
            into = new int[WALKERS * MOVES];
            door = new int[WALKERS * MOVES];
        }

        void list(Plan plan, int t) {
            for (int w = 0; w < WALKERS; w++) {
                int m = w * MOVES;
                for (int s = 0; s < plan.states[w]; s++) {
                    first[w * (STATES + 1) + s] = m;
                    m = w < plan.used ? listState(plan, t, w, s, m) : listAbsent(m);
                }
                first[w * (STATES + 1) + plan.states[w]] = m;
            }
        }

        private int listAbsent(int m) {
            into[m] = 0;
            door[m] = 0;
            return m + 1;
        }

        private int listState(Plan plan, int t, int w, int s, int m) {
            House house = plan.house;
            int room = plan.roomOf(s);
            int end = m;
            if (plan.mayGo(w, room, t + 1)) {
                into[end] = room * plan.stride[w];
                door[end] = 0;
                end++;
            }
            if (s >= house.rooms) return end;
            int tired = house.pace[w] == 2 ? house.rooms : 0;
            for (int d = 0; d < house.doors; d++) {
                int other = house.behind(d, room);
                if (other >= 0 && plan.opens(d, t) && plan.mayGo(w, other, t + 1)) {
                    into[end] = (other + tired) * plan.stride[w];
                    door[end] = 1 << d;
                    end++;
                }
            }
            return end;
        }
    }

    /**
     * The search: a value for each joint state of a minute (0: it is none that counts), carried over all steps of all
     * WALKERS to the next minute, or back to the one ahead.
     */
    private static final class Walks {
        final Moves moves;
        // Joint states of each minute: those that can be till then; once the search has lived, those of WAYS alone.
        final long[] sets;
        // DOORS (bits) that each WALKER may, must pass from a minute on; that some may, must.
        final int[] may, must, maySome, mustSome;
        private long[] now, next, kept;
        private Plan plan;
        private int mode, minute, followed, missPrice, selfPrice;
        private boolean inSets;
        private long stood;

        Walks() {
            moves = new Moves();
            sets = new long[MINUTES * SET_WORDS];
            may = new int[WALKERS * MINUTES];
            must = new int[WALKERS * MINUTES];
            maySome = new int[MINUTES];
            mustSome = new int[MINUTES];
            now = new long[JOINT];
            next = new long[JOINT];
            kept = new long[JOINT];
        }

        // -- searches

        /** The first minute till which the plan cannot be, or NONE; the states of each minute are kept, if so told. */
        int firstEmpty(Plan itsPlan, boolean keep) {
            if (!itsPlan.fit) return 0;
            begin(itsPlan, COUNT, false);
            int last = plan.house.last;
            for (int t = 0; t <= last; t++) {
                if (t > 0) sweep(t - 1);
                if (keep) keepSet(t);
                if (isNone()) return t;
            }
            return NONE;
        }

        /** Leaves in the sets what has a way to the end, and notes which DOORS are passed. */
        void live(Plan itsPlan) {
            plan = itsPlan;
            mode = LIVING;
            int last = plan.house.last;
            loadSet(last);
            for (int t = last - 1; t >= 0; t--) {
                for (int w = 0; w < WALKERS; w++) {
                    may[w * MINUTES + t] = 0;
                    must[w * MINUTES + t] = -1;
                }
                maySome[t] = 0;
                mustSome[t] = -1;
                sweep(t);
                keepSet(t);
            }
        }

        /** Counts, for each state of a minute, how WAYS come to it (now) and go on from it (kept). */
        void weigh(Plan itsPlan, int t) {
            plan = itsPlan;
            mode = ENDS;
            int last = plan.house.last;
            loadSet(last);
            for (int u = last - 1; u >= t; u--) sweep(u);
            long[] ends = now;
            now = kept;
            kept = ends;
            begin(itsPlan, COUNT, true);
            for (int u = 0; u < t; u++) sweep(u);
        }

        /** Of the WAYS weighed: how many have one of these spots (0: all of them). */
        long waysIn(Plan itsPlan, int these) {
            long sum = 0L;
            for (int j = 0; j < itsPlan.total; j++) {
                boolean counts = these == 0 || (itsPlan.spots[j] & these) != 0;
                if (counts && now[j] != 0L && kept[j] != 0L) sum = capped(sum + through(now[j], kept[j]));
            }
            return sum;
        }

        private static long through(long here, long on) {
            if (on < 1L || here > TOO_MANY / on) return TOO_MANY;
            return here * on;
        }

        /** Bits of how long a WALKER stood at the end of WAYS; the n-th: he once stood for n minutes. */
        long standings(Plan itsPlan, int w, int n) {
            followed = w;
            stood = 1L << n;
            begin(itsPlan, STANDING, true);
            for (int t = 0; t < plan.house.last; t++) sweep(t);
            long bits = 0L;
            for (int j = 0; j < plan.total; j++) bits |= now[j];
            return bits;
        }

        boolean stayApart(Plan itsPlan, int w, int other) {
            begin(itsPlan, COUNT, true);
            for (int t = 0; t <= plan.house.last; t++) {
                if (t > 0) sweep(t - 1);
                for (int j = 0; j < plan.total; j++) {
                    if (together(j, w, other)) now[j] = 0L;
                }
            }
            return !isNone();
        }

        int firstWrong(Plan itsPlan, int w, int[] told) {
            begin(itsPlan, COUNT, true);
            for (int t = 0; t <= plan.house.last; t++) {
                if (t > 0) sweep(t - 1);
                keepIn(w, told[t]);
                if (isNone()) return t;
            }
            return NONE;
        }

        void firstWalk(Plan itsPlan, int w, int[] walk) {
            begin(itsPlan, COUNT, true);
            for (int t = 0; t <= plan.house.last; t++) {
                if (t > 0) sweep(t - 1);
                int spots = 0;
                for (int j = 0; j < plan.total; j++) {
                    if (now[j] != 0L) spots |= plan.spots[j];
                }
                walk[t] = leastOf(roomsOf(spots, w));
                keepIn(w, walk[t]);
            }
        }

        /** The CHEAPEST and its MISSES, as PRICE_UNIT says; below 0, if there is none. */
        long least(Plan itsPlan, int miss, int self) {
            if (!itsPlan.fit) return -1L;
            missPrice = miss;
            selfPrice = self;
            begin(itsPlan, LEAST, false);
            for (int t = 0; t < plan.house.last; t++) sweep(t);
            long least = 0L;
            for (int j = 0; j < plan.total; j++) least = lesser(least, now[j]);
            return least - 1L;
        }

        /** The last minute (from first on, ahead of empty) at which a state of the sets can go on by this plan; NONE. */
        int lastSince(Plan itsPlan, int first, int empty) {
            plan = itsPlan;
            mode = MOST;
            inSets = false;
            for (int j = 0; j < plan.total; j++) now[j] = 0L;
            int last = plan.house.last;
            for (int t = first; t <= last; t++) {
                if (t > first) sweep(t - 1);
                for (int j = 0; t < empty && j < plan.total; j++) {
                    if (isIn(j, t)) now[j] = t + 1;
                }
            }
            long most = 0L;
            for (int j = 0; j < plan.total; j++) most = Math.max(most, now[j]);
            return most == 0L || most > last ? NONE : (int) most - 1;
        }

        // -- what the sets and notes tell

        int mayBe(Plan itsPlan, int t) {
            int spots = 0;
            for (int j = 0; j < itsPlan.total; j++) {
                if (isIn(j, t)) spots |= itsPlan.spots[j];
            }
            return spots;
        }

        int mustBe(Plan itsPlan, int t) {
            int spots = -1;
            for (int j = 0; j < itsPlan.total; j++) {
                if (isIn(j, t)) spots &= itsPlan.spots[j];
            }
            return spots;
        }

        int fewestIn(Plan itsPlan, int t, int these) {
            int fewest = WALKERS;
            for (int j = 0; j < itsPlan.total; j++) {
                if (isIn(j, t)) fewest = Math.min(fewest, Integer.bitCount(itsPlan.spots[j] & these));
            }
            return fewest;
        }

        int mostIn(Plan itsPlan, int t, int these) {
            int most = 0;
            for (int j = 0; j < itsPlan.total; j++) {
                if (isIn(j, t)) most = Math.max(most, Integer.bitCount(itsPlan.spots[j] & these));
            }
            return most;
        }

        int firstMeeting(Plan itsPlan, int w, int other) {
            plan = itsPlan;
            for (int t = 0; t <= plan.house.last; t++) {
                for (int j = 0; j < plan.total; j++) {
                    if (isIn(j, t) && together(j, w, other)) return t;
                }
            }
            return NONE;
        }

        int walkersThrough(int[] notes, int d, int t) {
            int bits = 0;
            for (int w = 0; w < WALKERS; w++) bits |= (notes[w * MINUTES + t] >> d & 1) << w;
            return bits;
        }

        int minutesOf(int[] notes, int d, int last) {
            int many = 0;
            for (int t = 0; t < last; t++) many += notes[t] >> d & 1;
            return many;
        }

        // -- one minute

        /** Each joint state in which the WALKERS may begin has the value 1. */
        private void begin(Plan itsPlan, int itsMode, boolean itsSets) {
            plan = itsPlan;
            mode = itsMode;
            inSets = itsSets;
            for (int j = 0; j < plan.total; j++) now[j] = 0L;
            for (int s2 = 0; s2 < rested(2); s2++) {
                for (int s1 = 0; s1 < rested(1); s1++) {
                    for (int s0 = 0; s0 < rested(0); s0++) {
                        int j = s0 * plan.stride[0] + s1 * plan.stride[1] + s2 * plan.stride[2];
                        if (stays(j, 0)) now[j] = 1L;
                    }
                }
            }
        }

        private int rested(int w) {
            return w < plan.used ? plan.house.rooms : 1;
        }

        private boolean stays(int j, int t) {
            return inSets ? isIn(j, t) : plan.fits(j, t);
        }

        /** Carries the values over the steps from minute t on: to the next minute, or (ENDS, LIVING) from it to t. */
        private void sweep(int t) {
            minute = t;
            moves.list(plan, t);
            for (int j = 0; j < plan.total; j++) next[j] = 0L;
            boolean back = mode == ENDS || mode == LIVING;
            int j = 0;
            for (int s2 = 0; s2 < plan.states[2]; s2++) {
                for (int s1 = 0; s1 < plan.states[1]; s1++) {
                    for (int s0 = 0; s0 < plan.states[0]; s0++) {
                        if (back ? isIn(j, t) : now[j] != 0L) fan(j, s0, s1, s2);
                        j++;
                    }
                }
            }
            for (int k = 0; !back && k < plan.total; k++) {
                if (next[k] != 0L && !stays(k, t + 1)) next[k] = 0L;
            }
            long[] old = now;
            now = next;
            next = old;
        }

        /** All steps out of a joint state that pass just those DOORS, of the BOARDS heard, that sound. */
        private void fan(int j, int s0, int s1, int s2) {
            int heard = plan.heard;
            int want = plan.sounds[minute] & heard;
            int[] first = moves.first;
            int[] into = moves.into;
            int[] door = moves.door;
            int from1 = STATES + 1 + s1;
            int from2 = 2 * (STATES + 1) + s2;
            for (int m0 = first[s0]; m0 < first[s0 + 1]; m0++) {
                for (int m1 = first[from1]; m1 < first[from1 + 1]; m1++) {
                    int passed = door[m0] | door[m1];
                    int half = into[m0] + into[m1];
                    for (int m2 = first[from2]; m2 < first[from2 + 1]; m2++) {
                        if (((passed | door[m2]) & heard) == want) link(j, half + into[m2], door[m0], door[m1], door[m2]);
                    }
                }
            }
        }

        private void link(int j, int k, int d0, int d1, int d2) {
            switch (mode) {
                case COUNT:
                    next[k] = capped(next[k] + now[j]);
                    break;
                case STANDING:
                    next[k] |= stoodOn(now[j], followed == 0 ? d0 : followed == 1 ? d1 : d2);
                    break;
                case LEAST:
                    next[k] = lesser(next[k], now[j] + priceOf(d0 | d1 | d2));
                    break;
                case MOST:
                    next[k] = Math.max(next[k], now[j]);
                    break;
                case ENDS:
                    next[j] = capped(next[j] + now[k]);
                    break;
                default:
                    if (now[k] == 0L) break;
                    next[j] = 1L;
                    note(0, d0);
                    note(1, d1);
                    note(2, d2);
                    maySome[minute] |= d0 | d1 | d2;
                    mustSome[minute] &= d0 | d1 | d2;
            }
        }

        private void note(int w, int door) {
            may[w * MINUTES + minute] |= door;
            must[w * MINUTES + minute] &= door;
        }

        private long stoodOn(long bits, int door) {
            long done = bits & stood;
            long open = bits & ~stood;
            if (door == 0) return done | open << 1;
            return open == 0L ? done : done | 1L;
        }

        private long priceOf(int passed) {
            int sounds = plan.sounds[minute];
            int misses = Integer.bitCount(passed & plan.house.boards & ~sounds);
            int selfs = Integer.bitCount(sounds & ~passed);
            return PRICE_UNIT * (misses * missPrice + selfs * selfPrice) + misses;
        }

        private static long lesser(long a, long b) {
            if (a == 0L || b == 0L) return a + b;
            return Math.min(a, b);
        }

        private boolean together(int j, int w, int other) {
            return roomsOf(plan.spots[j], w) == roomsOf(plan.spots[j], other);
        }

        private void keepIn(int w, int room) {
            for (int j = 0; j < plan.total; j++) {
                if ((plan.spots[j] & roomBit(w, room)) == 0) now[j] = 0L;
            }
        }

        private boolean isNone() {
            for (int j = 0; j < plan.total; j++) {
                if (now[j] != 0L) return false;
            }
            return true;
        }

        private boolean isIn(int j, int t) {
            return (sets[t * SET_WORDS + (j >> 6)] >> (j & 63) & 1L) != 0L;
        }

        private void keepSet(int t) {
            for (int word = 0; word < SET_WORDS; word++) sets[t * SET_WORDS + word] = 0L;
            for (int j = 0; j < plan.total; j++) {
                if (now[j] != 0L) sets[t * SET_WORDS + (j >> 6)] |= 1L << (j & 63);
            }
        }

        private void loadSet(int t) {
            for (int j = 0; j < plan.total; j++) now[j] = isIn(j, t) ? 1L : 0L;
        }
    }
}
