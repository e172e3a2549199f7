/** Boundary cases of promises 13 to 18, and of EVENTS: their KINDS, how many, what is told of them. */
public final class EdgeEventTest {
    private static final String HOUSE = "r4 m9 D3-0 d1-2 D2-3 w1:0 w2:13";
    private static final String LARGEST = "r6m30d0-1D1-2d2-3d3-4d4-5d0-5d1-4D2-5w1:*w1:*w2:5";
    private static final String SMALLEST = "r1m1";
    private static CreakBoards x;

    private static Edge.Call eventCall(int kind, int a, int b, int t) {
        return () -> x.event(kind, a, b, t);
    }

    private static void goes(int kind, int a, int b, int t, int told) {
        int e = x.count(4);
        String call = "event(" + kind + ", " + a + ", " + b + ", " + t + ")";
        Edge.plain(x, call, e, eventCall(kind, a, b, t));
        int[] want = {kind, a, told, t};
        for (int what = 0; what < 4; what++) Edge.tells(x, call + " told(" + e + ", " + what + ")", x.told(e, what), 1, want[what]);
        if (e >= 20) x.back(0);
    }

    private static void isBad(int kind, int a, int b, int t) {
        Edge.refused(x, "event(" + kind + ", " + a + ", " + b + ", " + t + ")", Edge.BAD, eventCall(kind, a, b, t));
    }

    private static void in(String house, String sentence) {
        Edge.of(sentence);
        x = house.isEmpty() ? new CreakBoards() : Make.house(house);
    }

    private static void kinds() {
        in(HOUSE, "13: its number, of KINDS 1 .. 5");
        goes(1, 0, 0, 0, 0);
        goes(2, 0, 0, 0, 0);
        goes(3, 0, 0, 0, 0);
        goes(4, 0, 0, 0, 0);
        goes(5, 0, 0, 0, 0);
        in(HOUSE, "13 BAD: KIND 0, 6 and beyond");
        for (int kind : new int[] {0, -1, 6, 7, 37, 257, Edge.MAX, Edge.MIN}) isBad(kind, 0, 0, 0);
        in(HOUSE, "13: b is not looked at of SOUND, SEEN, BARE: 0 is told");
        for (int b : new int[] {-1, 1, 9, 77, Edge.MAX, Edge.MIN}) {
            goes(1, 0, b, 0, 0);
            goes(2, 0, b, 0, 0);
            goes(4, 0, b, 0, 0);
        }
    }

    private static void places() {
        in(HOUSE, "13: a of a SOUND a DOOR with a BOARD");
        goes(1, 0, 0, 0, 0);
        goes(1, 2, 0, 0, 0);
        isBad(1, 1, 0, 0);
        for (int d : Edge.beyond(3)) isBad(1, d, 0, 0);
        in(LARGEST, "13: a of a SOUND in the largest HOUSE");
        for (int d = 0; d < 8; d++) {
            if (d == 1 || d == 7) goes(1, d, 0, 0, 0);
            else isBad(1, d, 0, 0);
        }
        for (int d : Edge.beyond(8)) isBad(1, d, 0, 0);
        in(HOUSE, "13: a of a SHUT one any DOOR");
        for (int d = 0; d < 3; d++) goes(5, d, 0, 0, 0);
        for (int d : Edge.beyond(3)) isBad(5, d, 0, 0);
        in(LARGEST, "13: a of a SHUT one in the largest HOUSE");
        for (int d = 0; d < 8; d++) goes(5, d, 29, 29, 29);
        for (int d : Edge.beyond(8)) isBad(5, d, 0, 0);
        for (int kind = 2; kind <= 4; kind++) {
            in(HOUSE, "13: a of KIND " + kind + " a ROOM");
            for (int r = 0; r < 4; r++) goes(kind, r, 0, 0, 0);
            for (int r : Edge.beyond(4)) isBad(kind, r, 0, 0);
            x = Make.house(LARGEST);
            goes(kind, 5, 0, 0, 0);
            isBad(kind, 6, 0, 0);
            x = Make.house(SMALLEST + "w1:0");
            goes(kind, 0, 0, 0, 0);
            isBad(kind, 1, 0, 0);
        }
        in(HOUSE, "13: b of THIS a WALKER");
        goes(3, 0, 0, 0, 0);
        goes(3, 0, 1, 0, 1);
        for (int w : Edge.beyond(2)) isBad(3, 0, w, 0);
        x = Make.house(LARGEST);
        goes(3, 0, 2, 0, 2);
        for (int w : Edge.beyond(3)) isBad(3, 0, w, 0);
        x = Make.house(SMALLEST);
        for (int w : new int[] {-1, 0, 1}) isBad(3, 0, w, 0);
    }

    private static void minutes() {
        in(HOUSE, "13: t of a SOUND 0 to LAST less 1");
        goes(1, 0, 0, 0, 0);
        goes(1, 0, 0, 8, 0);
        for (int t : new int[] {-1, 9, 10, Edge.MAX, Edge.MIN}) isBad(1, 0, 0, t);
        for (int kind = 2; kind <= 4; kind++) {
            in(HOUSE, "13: t of KIND " + kind + " 0 to LAST");
            goes(kind, 0, 0, 0, 0);
            goes(kind, 0, 0, 9, 0);
            for (int t : new int[] {-1, 10, 11, Edge.MAX, Edge.MIN}) isBad(kind, 0, 0, t);
        }
        in(HOUSE, "13: t of a SHUT one 0 to LAST less 1, u (b) t to LAST less 1");
        goes(5, 0, 0, 0, 0);
        goes(5, 0, 8, 0, 8);
        goes(5, 0, 8, 8, 8);
        goes(5, 0, 5, 5, 5);
        goes(5, 0, 6, 5, 6);
        int[][] bad = {{9, 0}, {9, 8}, {9, 9}, {4, 5}, {7, 8}, {0, 8}, {-1, 0}, {-1, -1}, {0, -1}, {10, 9}, {Edge.MAX, 0},
            {Edge.MAX, Edge.MAX}, {Edge.MIN, 0}, {Edge.MIN, Edge.MIN}, {8, Edge.MIN}, {8, Edge.MAX}};
        for (int[] c : bad) isBad(5, 0, c[0], c[1]);
        in("r2m1D0-1w1:0", "13: LAST 1");
        goes(1, 0, 0, 0, 0);
        isBad(1, 0, 0, 1);
        goes(5, 0, 0, 0, 0);
        isBad(5, 0, 1, 0);
        isBad(5, 0, 1, 1);
        goes(2, 0, 0, 1, 0);
        goes(3, 0, 0, 1, 0);
        goes(4, 0, 0, 1, 0);
        isBad(2, 0, 0, 2);
        isBad(3, 0, 0, 2);
        isBad(4, 0, 0, 2);
        in(LARGEST, "13: LAST 30");
        goes(1, 1, 0, 29, 0);
        isBad(1, 1, 0, 30);
        goes(5, 0, 29, 0, 29);
        isBad(5, 0, 30, 0);
        isBad(5, 0, 30, 30);
        goes(2, 0, 0, 30, 0);
        goes(3, 0, 0, 30, 0);
        goes(4, 0, 0, 30, 0);
        isBad(2, 0, 0, 31);
        isBad(3, 0, 0, 31);
        isBad(4, 0, 0, 31);
        in("", "13: without a HOUSE");
        goes(2, 0, 0, 12, 0);
        goes(4, 0, 0, 12, 0);
        isBad(2, 0, 0, 13);
        isBad(4, 1, 0, 0);
        isBad(1, 0, 0, 0);
        isBad(3, 0, 0, 0);
        isBad(5, 0, 0, 0);
    }

    private static void full() {
        in(HOUSE, "13: EVENTS 0, 1, .. 23");
        for (int e = 0; e < 24; e++) Edge.plain(x, "event(2, 1, 0, 3)", e, eventCall(2, 1, 0, 3));
        Edge.due("count(4)", x.count(4), 24);
        Edge.of("13 FULL: a twenty-fifth, of each KIND");
        Edge.refused(x, "event(1, 0, 0, 0)", Edge.FULL, eventCall(1, 0, 0, 0));
        Edge.refused(x, "event(2, 0, 0, 0)", Edge.FULL, eventCall(2, 0, 0, 0));
        Edge.refused(x, "event(3, 0, 0, 0)", Edge.FULL, eventCall(3, 0, 0, 0));
        Edge.refused(x, "event(4, 0, 0, 0)", Edge.FULL, eventCall(4, 0, 0, 0));
        Edge.refused(x, "event(5, 0, 0, 0)", Edge.FULL, eventCall(5, 0, 0, 0));
        Edge.of("13: BAD ahead of FULL");
        isBad(0, 0, 0, 0);
        isBad(6, 0, 0, 0);
        isBad(1, 1, 0, 0);
        isBad(2, 0, 0, 10);
        isBad(3, 0, 2, 0);
        isBad(4, 4, 0, 0);
        isBad(5, 0, 9, 0);
        Edge.of("13: one goes again behind back()");
        x.back(23);
        Edge.plain(x, "event(2, 0, 0, 0)", 23, eventCall(2, 0, 0, 0));
        in("r2m6D0-1d0-1w1:*w1:*", "13: an EVENT is what it is in a TEXT");
        CreakBoards y = Make.night("r2m6D0-1d0-1w1:*w1:*", "s0@5 y1@6 y0/1@2 n1@0 x1@2-4");
        int[][] five = {{1, 0, 9, 5}, {2, 1, 9, 6}, {3, 0, 1, 2}, {4, 1, 9, 0}, {5, 1, 4, 2}};
        for (int[] e : five) x.event(e[0], e[1], e[2], e[3]);
        for (int e = 0; e < 5; e++) {
            for (int what = 0; what < 4; what++) {
                y.told(e, what);
                Edge.tells(x, "told(" + e + ", " + what + ")", x.told(e, what), 1, y.asked());
            }
        }
    }

    private static void back() {
        in(HOUSE, "14: EVENTS from number n on go: how many went");
        for (int n = 0; n <= 5; n++) {
            int from = n;
            x.back(0);
            for (int e = 0; e < 5; e++) x.event(2, 0, 0, e);
            Edge.plain(x, "back(" + n + ")", 5 - n, () -> x.back(from));
            Edge.due("count(4)", x.count(4), n);
            Edge.refused(x, "told(" + n + ", 0)", Edge.BAD, () -> x.told(from, 0));
            if (n > 0) Edge.tells(x, "told(" + (n - 1) + ", 3)", x.told(n - 1, 3), 1, n - 1);
        }
        x.back(0);
        for (int e = 0; e < 24; e++) x.event(2, 0, 0, 0);
        Edge.due("back(24) of 24", x.back(24), 0);
        Edge.due("back(0) of 24", x.back(0), 24);
        Edge.due("back(0) of none", x.back(0), 0);
        Edge.of("14 BAD: n below 0, or more than there are");
        for (int n : new int[] {-1, 1, 24, Edge.MAX, Edge.MIN}) Edge.refused(x, "back(" + n + ") of none", Edge.BAD, () -> x.back(n));
        for (int e = 0; e < 3; e++) x.event(2, 0, 0, e);
        for (int n : new int[] {-1, 4, 5, 24, Edge.MAX, Edge.MIN}) Edge.refused(x, "back(" + n + ") of 3", Edge.BAD, () -> x.back(n));
    }

    private static void told() {
        in(HOUSE, "15: 0 its KIND, 1 a, 2 b (0: not looked at), 3 t");
        goes(5, 2, 8, 3, 8);
        goes(3, 3, 1, 9, 1);
        goes(4, 2, 5, 7, 0);
        Edge.of("15 BAD: an EVENT that there is not; what below 0, above 3");
        for (int e : Edge.beyond(3)) Edge.refused(x, "told(" + e + ", 0)", Edge.BAD, () -> x.told(e, 0));
        for (int what : Edge.beyond(4)) Edge.refused(x, "told(0, " + what + ")", Edge.BAD, () -> x.told(0, what));
        in("", "15 BAD: without EVENTS");
        Edge.refused(x, "told(0, 0)", Edge.BAD, () -> x.told(0, 0));
        in(HOUSE, "15: the last of 24");
        for (int e = 0; e < 24; e++) x.event(2, e % 4, 0, e % 10);
        Edge.tells(x, "told(23, 3)", x.told(23, 3), 1, 3);
        Edge.refused(x, "told(24, 3)", Edge.BAD, () -> x.told(24, 3));
    }

    private static void dueMarks(int e, int... marks) {
        for (int kind = 1; kind <= 5; kind++) {
            int itsKind = kind;
            String call = "mark(" + e + ", " + kind + ")";
            if (marks[kind - 1] >= 0) Edge.plain(x, call, marks[kind - 1], () -> x.mark(e, itsKind));
            else Edge.found(x, call, Edge.UNLIKE, () -> x.mark(e, itsKind));
        }
    }

    private static void mark() {
        in(LARGEST, "16: what an EVENT that is of a KIND tells; UNLIKE: it is of another one");
        x.event(1, 7, 0, 29);
        x.event(2, 5, 0, 30);
        x.event(3, 4, 2, 30);
        x.event(4, 3, 0, 30);
        x.event(5, 6, 7, 5);
        dueMarks(0, 7, -1, -1, -1, -1);
        dueMarks(1, -1, 5, -1, -1, -1);
        dueMarks(2, -1, 4, 2, -1, -1);
        dueMarks(3, -1, -1, -1, 3, -1);
        dueMarks(4, -1, -1, -1, -1, 3);
        Edge.of("16: a SHUT one how many minutes, 1 .. 30");
        x.back(0);
        for (int u = 0; u < 30; u++) {
            x.event(5, 0, u, 0);
            Edge.due("mark(0, 5) of 0 to " + u, x.mark(0, 5), u + 1);
            x.back(0);
            x.event(5, 0, 29, u);
            Edge.due("mark(0, 5) of " + u + " to 29", x.mark(0, 5), 30 - u);
            x.back(0);
        }
        Edge.of("16: the least that is told");
        x.event(2, 0, 0, 0);
        x.event(3, 0, 0, 0);
        x.event(4, 0, 0, 0);
        dueMarks(0, -1, 0, -1, -1, -1);
        dueMarks(1, -1, 0, 0, -1, -1);
        dueMarks(2, -1, -1, -1, 0, -1);
        Edge.of("16 BAD: also KIND 0; an EVENT that there is not; ahead of UNLIKE");
        for (int kind : new int[] {0, -1, 6, 7, 33, Edge.MAX, Edge.MIN}) Edge.refused(x, "mark(0, " + kind + ")", Edge.BAD, () -> x.mark(0, kind));
        for (int e : Edge.beyond(3)) Edge.refused(x, "mark(" + e + ", 1)", Edge.BAD, () -> x.mark(e, 1));
        in("", "16 BAD: without EVENTS");
        Edge.refused(x, "mark(0, 1)", Edge.BAD, () -> x.mark(0, 1));
    }

    private static void door() {
        in(LARGEST, "17: 0 the lesser ROOM, 1 the greater one, 2 whether it has a BOARD");
        int[][] doors = {{0, 1, 0}, {1, 2, 1}, {2, 3, 0}, {3, 4, 0}, {4, 5, 0}, {0, 5, 0}, {1, 4, 0}, {2, 5, 1}};
        for (int d = 0; d < 8; d++) {
            for (int what = 0; what < 3; what++) Edge.tells(x, "door(" + d + ", " + what + ")", x.door(d, what), 1, doors[d][what]);
        }
        x = Make.house("r6D5-4d1-0");
        int[][] turned = {{4, 5, 1}, {0, 1, 0}};
        for (int d = 0; d < 2; d++) {
            for (int what = 0; what < 3; what++) Edge.tells(x, "door(" + d + ", " + what + ")", x.door(d, what), 1, turned[d][what]);
        }
        Edge.of("17 BAD: a DOOR that there is not; what below 0, above 2");
        for (int d : Edge.beyond(2)) Edge.refused(x, "door(" + d + ", 0)", Edge.BAD, () -> x.door(d, 0));
        for (int what : Edge.beyond(3)) Edge.refused(x, "door(0, " + what + ")", Edge.BAD, () -> x.door(0, what));
        x = Make.house(LARGEST);
        for (int d : Edge.beyond(8)) Edge.refused(x, "door(" + d + ", 0)", Edge.BAD, () -> x.door(d, 0));
        x = new CreakBoards();
        Edge.refused(x, "door(0, 0) without a HOUSE", Edge.BAD, () -> x.door(0, 0));
    }

    private static void walker() {
        in("r6w2:5w1:*w2:0", "18: 0 his PACE, 1 ROOMS in which he may begin (bits)");
        int[][] walkers = {{2, 32}, {1, 63}, {2, 1}};
        for (int w = 0; w < 3; w++) {
            for (int what = 0; what < 2; what++) Edge.tells(x, "walker(" + w + ", " + what + ")", x.walker(w, what), 1, walkers[w][what]);
        }
        Edge.of("18 BAD: a WALKER that there is not; what below 0, above 1");
        for (int w : Edge.beyond(3)) Edge.refused(x, "walker(" + w + ", 0)", Edge.BAD, () -> x.walker(w, 0));
        for (int what : Edge.beyond(2)) Edge.refused(x, "walker(0, " + what + ")", Edge.BAD, () -> x.walker(0, what));
        x = Make.house("r2w1:0");
        Edge.refused(x, "walker(1, 0) of one", Edge.BAD, () -> x.walker(1, 0));
        x = new CreakBoards();
        Edge.refused(x, "walker(0, 0) without a HOUSE", Edge.BAD, () -> x.walker(0, 0));
    }

    public static void main(String[] args) {
        kinds();
        places();
        minutes();
        full();
        back();
        told();
        mark();
        door();
        walker();
        Edge.end("EdgeEventTest");
    }
}
