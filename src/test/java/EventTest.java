/** Promises 13 to 18: events one by one, and what is told of events, doors and walkers. */
public final class EventTest {
    private static CreakBoards big() {
        return Make.house("r4 m9 D3-0 d1-2 D2-3 w1:0 w2:13");
    }

    private static void dueEvent(CreakBoards x, int kind, int a, int b, int t, int want) {
        Check.due("event(" + kind + ", " + a + ", " + b + ", " + t + ")", x.event(kind, a, b, t), want);
    }

    private static void dueTold(CreakBoards x, int e, int... want) {
        for (int what = 0; what < 4; what++) {
            Check.due("told(" + e + ", " + what + ")", x.told(e, what), 1);
            Check.due("told(" + e + ", " + what + ") asked()", x.asked(), want[what]);
        }
    }

    private static void events() {
        CreakBoards x = big();
        dueEvent(x, 1, 0, 77, 0, 0);
        dueEvent(x, 1, 2, -5, 8, 1);
        dueEvent(x, 2, 3, 99, 9, 2);
        dueEvent(x, 3, 0, 1, 9, 3);
        dueEvent(x, 4, 2, -1, 0, 4);
        dueEvent(x, 5, 1, 8, 0, 5);
        dueEvent(x, 5, 1, 8, 8, 6);
        dueTold(x, 0, 1, 0, 0, 0);
        dueTold(x, 1, 1, 2, 0, 8);
        dueTold(x, 2, 2, 3, 0, 9);
        dueTold(x, 3, 3, 0, 1, 9);
        dueTold(x, 4, 4, 2, 0, 0);
        dueTold(x, 5, 5, 1, 8, 0);
        dueTold(x, 6, 5, 1, 8, 8);
        int[][] bad = {{0, 0, 0, 0}, {6, 0, 0, 0}, {-1, 0, 0, 0}, {1, 1, 0, 0}, {1, 3, 0, 0}, {1, -1, 0, 0}, {1, 0, 0, 9}, {1, 0, 0, -1},
            {1, 32, 0, 0}, {2, 4, 0, 0}, {2, -1, 0, 0}, {2, 0, 0, 10}, {2, 0, 0, -1}, {3, 4, 0, 0}, {3, 0, 2, 0}, {3, 0, -1, 0},
            {3, 0, 0, 10}, {4, 4, 0, 0}, {4, 0, 0, 10}, {4, 0, 0, -1}, {5, 3, 0, 0}, {5, -1, 0, 0}, {5, 0, 9, 0}, {5, 0, 2, 3},
            {5, 0, 9, 9}, {5, 0, -1, -1}, {5, 0, 3, Integer.MIN_VALUE}, {2, Integer.MAX_VALUE, 0, 0}, {2, 0, 0, Integer.MAX_VALUE}};
        for (int[] e : bad) dueEvent(x, e[0], e[1], e[2], e[3], -1);
        Check.due("seven events", x.count(4), 7);
        Check.due("two seen", x.count(5), 2);
        for (int e = 7; e < 24; e++) dueEvent(x, 4, 1, 0, 3, e);
        dueEvent(x, 4, 1, 0, 3, -2);
        dueEvent(x, 4, 4, 0, 3, -1);
        Check.due("24 events", x.count(4), 24);
    }

    private static void back() {
        CreakBoards x = big();
        for (int e = 0; e < 5; e++) x.event(2, 0, 0, e);
        Check.due("back(-1)", x.back(-1), -1);
        Check.due("back(6)", x.back(6), -1);
        Check.due("back(max)", x.back(Integer.MAX_VALUE), -1);
        Check.due("back(5)", x.back(5), 0);
        Check.due("back(3)", x.back(3), 2);
        Check.due("three stay", x.count(4), 3);
        Check.due("told(3, 0)", x.told(3, 0), -1);
        dueTold(x, 2, 2, 0, 0, 2);
        dueEvent(x, 4, 0, 0, 0, 3);
        Check.due("back(0)", x.back(0), 4);
        Check.due("back(0) again", x.back(0), 0);
        Check.due("back(1)", x.back(1), -1);
    }

    private static void told() {
        CreakBoards x = big();
        x.event(4, 2, 0, 5);
        x.told(0, 3);
        int[][] bad = {{-1, 0}, {1, 0}, {0, -1}, {0, 4}, {Integer.MAX_VALUE, 0}, {0, Integer.MIN_VALUE}};
        for (int[] c : bad) Check.due("told(" + c[0] + ", " + c[1] + ")", x.told(c[0], c[1]), -1);
        Check.due("asked() stays", x.asked(), 5);
    }

    private static void mark() {
        CreakBoards x = Make.night("r4 m9 D3-0 d1-2 D2-3 w1:0 w2:13", "s2@1y3@2y2/1@3n1@4x1@3-7x2@8-8");
        int[][] marks = {{-3, 2, -3, -3, -3, -3}, {-3, -3, 3, -3, -3, -3}, {-3, -3, 2, 1, -3, -3}, {-3, -3, -3, -3, 1, -3},
            {-3, -3, -3, -3, -3, 5}, {-3, -3, -3, -3, -3, 1}};
        for (int e = 0; e < 6; e++) {
            for (int kind = 1; kind <= 5; kind++) {
                x.row(0, -1);
                Check.due("mark(" + e + ", " + kind + ")", x.mark(e, kind), marks[e][kind]);
                if (marks[e][kind] == -3) Check.due("mark finding() UNLIKE", x.finding(), 3);
            }
            for (int kind : new int[] {0, -1, 6, Integer.MAX_VALUE}) Check.due("mark(" + e + ", " + kind + ")", x.mark(e, kind), -1);
        }
        for (int e : new int[] {-1, 6, 24, Integer.MAX_VALUE, Integer.MIN_VALUE}) Check.due("mark(" + e + ", 1)", x.mark(e, 1), -1);
    }

    private static void doorsAndWalkers() {
        CreakBoards x = big();
        int[][] doors = {{0, 3, 1}, {1, 2, 0}, {2, 3, 1}};
        for (int d = 0; d < 3; d++) {
            for (int what = 0; what < 3; what++) {
                Check.due("door(" + d + ", " + what + ")", x.door(d, what), 1);
                Check.due("door(" + d + ", " + what + ") asked()", x.asked(), doors[d][what]);
            }
        }
        int[][] walkers = {{1, 1}, {2, 10}};
        for (int w = 0; w < 2; w++) {
            for (int what = 0; what < 2; what++) {
                Check.due("walker(" + w + ", " + what + ")", x.walker(w, what), 1);
                Check.due("walker(" + w + ", " + what + ") asked()", x.asked(), walkers[w][what]);
            }
        }
        int[][] bad = {{-1, 0}, {3, 0}, {8, 0}, {0, -1}, {0, 3}, {Integer.MAX_VALUE, 0}, {0, Integer.MIN_VALUE}};
        for (int[] c : bad) {
            Check.due("door(" + c[0] + ", " + c[1] + ")", x.door(c[0], c[1]), -1);
            Check.due("walker(" + c[0] + ", " + c[1] + ")", x.walker(c[0], c[1]), -1);
        }
        Check.due("walker(2, 0)", x.walker(2, 0), -1);
        Check.due("walker(0, 2)", x.walker(0, 2), -1);
        Check.due("asked() stays", x.asked(), 10);
        x = Make.house("r6 w2:*w1:05w2:5");
        Check.due("walker(0, 1) in all rooms", x.walker(0, 1), 1);
        Check.due("asked() 63", x.asked(), 63);
        x.walker(1, 1);
        Check.due("asked() 33", x.asked(), 33);
    }

    public static void main(String[] args) {
        events();
        back();
        told();
        mark();
        doorsAndWalkers();
        Check.end("EventTest");
    }
}
