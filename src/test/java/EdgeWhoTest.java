/** Boundary cases of MUST, MAY, MEET, STAND (part 3 of Terms), and of promises 23, 25 to 28. */
public final class EdgeWhoTest {
    private static final String CANNOT = "y0@0n0@0";
    private static CreakBoards x;

    private static void empty() {
        Edge.of("23: ROOMS that must be empty, those in which somebody must be by asked()");
        x = Make.night("r6m2d0-1d1-2w1:0w2:0w1:3", "y0/0@2");
        Edge.tells(x, "empty(0)", x.empty(0), 2 + 4 + 16 + 32, 1 + 8);
        Edge.tells(x, "empty(1)", x.empty(1), 4 + 16 + 32, 8);
        Edge.tells(x, "empty(2)", x.empty(2), 4 + 16 + 32, 1 + 8);
        Edge.of("23: all are empty, none is");
        x = Make.house("r6m30");
        Edge.tells(x, "empty(0) of nobody", x.empty(0), 63, 0);
        Edge.tells(x, "empty(30) of nobody", x.empty(30), 63, 0);
        x = Make.house("r3m30w1:0w1:1w1:2");
        Edge.tells(x, "empty(30) of all ROOMS held", x.empty(30), 0, 7);
        x = Make.house("r3m30w1:*");
        Edge.tells(x, "empty(0) of anywhere", x.empty(0), 0, 0);
        x = Make.house("r1m1w1:0");
        Edge.tells(x, "empty(1) of one ROOM", x.empty(1), 0, 1);
        x = new CreakBoards();
        Edge.tells(x, "empty(0) without a HOUSE", x.empty(0), 1, 0);
        Edge.tells(x, "empty(12) without a HOUSE", x.empty(12), 1, 0);
        Edge.of("23: somebody must be, this one or that one");
        x = Make.night("r3m1d0-1w1:0w1:0", "y1@1");
        Edge.tells(x, "empty(1), SEEN", x.empty(1), 4, 2);
        Edge.of("23 BAD: a minute that is not 0 .. LAST; ahead of NOUGHT");
        for (String night : new String[] {"", CANNOT}) {
            x = Make.night("r2m5w1:0", night);
            for (int t : Edge.beyond(6)) Edge.refused(x, "empty(" + t + ")", Edge.BAD, () -> x.empty(t));
            x = Make.night("r1m30w1:0", night);
            for (int t : Edge.beyond(31)) Edge.refused(x, "empty(" + t + ")", Edge.BAD, () -> x.empty(t));
            x = Make.night("r1m1w1:0", night);
            for (int t : Edge.beyond(2)) Edge.refused(x, "empty(" + t + ")", Edge.BAD, () -> x.empty(t));
        }
        Edge.of("23 NOUGHT");
        x = Make.night("r2m5w1:0", "y1@5");
        Edge.found(x, "empty(0)", Edge.NOUGHT, () -> x.empty(0));
        x = Make.night("r2m5", "y1@5");
        Edge.found(x, "empty(0) of nobody", Edge.NOUGHT, () -> x.empty(0));
    }

    private static void dueMet(String house, String night, int want, int first) {
        x = Make.night(house, night);
        Edge.tells(x, "met(0, 1) of '" + house + "': '" + night + "'", x.met(0, 1), want, first);
        Edge.tells(x, "met(1, 0) of '" + house + "': '" + night + "'", x.met(1, 0), want, first);
    }

    private static Edge.Call metCall(int w, int other) {
        return () -> x.met(w, other);
    }

    private static void met() {
        Edge.of("25: 2 they must, the first minute in which they may: 0, LAST, between");
        dueMet("r1m1w1:0w1:0", "", 2, 0);
        dueMet("r2m30w1:0w2:0", "", 2, 0);
        dueMet("r2m1d0-1w1:0w1:1", "y1/0@1y1/1@1", 2, 1);
        dueMet("r2m30d0-1w1:0w1:1", "x0@0-28y1/0@30y1/1@30", 2, 30);
        dueMet("r3m4d0-1d1-2w1:0w1:2", "y1/0@2y1/1@2", 2, 1);
        Edge.of("25: 2 they must, at another minute in each WAY");
        dueMet("r2m3d0-1w1:0w1:1", "y1/0@3y1/1@3x0@1-1", 2, 1);
        dueMet("r2m2d0-1w1:0w1:1", "y1/0@2x0@1-1y1/1@1", 2, 1);
        Edge.of("25: 2 they must, in minute 0 alone");
        dueMet("r2m1d0-1w1:0w1:0", "", 2, 0);
        dueMet("r2m30d0-1w1:1w2:1", "y0/0@1", 2, 0);
        dueMet("r2m2d0-1w1:0w1:0", "y1/0@1y0/1@1y1/0@2y0/1@2", 2, 0);
        Edge.of("25: 1 they may");
        dueMet("r2m1d0-1w1:0w1:1", "", 1, 1);
        dueMet("r2m5w1:*w1:*", "", 1, 0);
        dueMet("r2m30d0-1w1:0w1:1", "x0@0-28", 1, 30);
        Edge.of("25: to pass by each other is not to MEET");
        dueMet("r2m1d0-1w1:0w1:1", "y1/0@1y0/1@1", 0, -9);
        dueMet("r2m1D0-1w1:0w1:1", "s0@0", 1, 1);
        Edge.of("25: 0 never, NONE by asked()");
        dueMet("r2m1w1:0w1:1", "", 0, -9);
        dueMet("r2m30w1:0w2:1", "", 0, -9);
        dueMet("r2m5d0-1w1:0w1:1", "x0@0-4", 0, -9);
        dueMet("r4m5d0-1d2-3w1:0w1:2", "", 0, -9);
        Edge.of("25: those two alone, of three");
        x = Make.house("r3m2w1:0w1:1w1:0");
        Edge.tells(x, "met(0, 2)", x.met(0, 2), 2, 0);
        Edge.tells(x, "met(2, 0)", x.met(2, 0), 2, 0);
        Edge.tells(x, "met(1, 2)", x.met(1, 2), 0, -9);
        Edge.tells(x, "met(0, 1)", x.met(0, 1), 0, -9);
        Edge.of("25 BAD: not two unlike WALKERS; ahead of NOUGHT");
        for (String night : new String[] {"", CANNOT}) {
            x = Make.night("r2m5w1:0w1:0", night);
            for (int w : Edge.beyond(2)) {
                Edge.refused(x, "met(" + w + ", 0)", Edge.BAD, metCall(w, 0));
                Edge.refused(x, "met(0, " + w + ")", Edge.BAD, metCall(0, w));
                Edge.refused(x, "met(" + w + ", " + w + ")", Edge.BAD, metCall(w, w));
            }
            for (int w = 0; w < 2; w++) Edge.refused(x, "met(" + w + ", " + w + ")", Edge.BAD, metCall(w, w));
            x = Make.night("r2m5w1:0w1:0w1:0", night);
            for (int w : Edge.beyond(3)) Edge.refused(x, "met(2, " + w + ")", Edge.BAD, metCall(2, w));
            Edge.refused(x, "met(2, 2)", Edge.BAD, metCall(2, 2));
            x = Make.night("r2m5w1:0", night);
            Edge.refused(x, "met(0, 1) of one", Edge.BAD, metCall(0, 1));
            x = Make.night("r2m5", night);
            Edge.refused(x, "met(0, 1) of nobody", Edge.BAD, metCall(0, 1));
        }
        Edge.of("25 NOUGHT");
        x = Make.night("r2m5w1:0w1:0", "y1@5");
        Edge.found(x, "met(0, 1)", Edge.NOUGHT, metCall(0, 1));
    }

    private static Edge.Call stillCall(int w, int n) {
        return () -> x.still(w, n);
    }

    private static void dueStill(String house, String night, int n, int want) {
        x = Make.night(house, night);
        Edge.plain(x, "still(0, " + n + ") of '" + house + "': '" + night + "'", want, stillCall(0, n));
    }

    private static void still() {
        Edge.of("26: to STAND for n minutes takes n and 1 minutes: LAST is the most");
        for (int last : new int[] {1, 2, 12, 29, 30}) {
            for (int n = 1; n <= 30; n++) {
                dueStill("r1m" + last + "w1:0", "", n, n <= last ? 2 : 0);
                dueStill("r1m" + last + "w2:0", "", n, n <= last ? 2 : 0);
            }
        }
        Edge.of("26: 1 he may, 2 he must");
        dueStill("r2m1d0-1w1:0", "", 1, 1);
        dueStill("r2m2d0-1w1:0", "", 1, 1);
        dueStill("r2m2d0-1w2:0", "", 1, 2);
        dueStill("r2m1d0-1w2:0", "", 1, 1);
        dueStill("r2m3d0-1w1:0", "", 3, 1);
        dueStill("r2m3d0-1w1:0", "y1@1y0@2y1@3", 1, 0);
        dueStill("r2m3d0-1w1:0", "y1@1y0@2", 1, 1);
        dueStill("r2m30d0-1w1:0", "", 30, 1);
        dueStill("r2m30d0-1w1:0", "x0@0-29", 30, 2);
        dueStill("r2m30d0-1w1:0", "x0@0-28", 30, 1);
        dueStill("r2m30d0-1w1:0", "x0@0-28", 29, 2);
        dueStill("r2m30d0-1w1:0", "x0@1-29", 29, 2);
        Edge.of("26: at the beginning, at the end, once between");
        dueStill("r2m6d0-1w1:0", "x0@0-2", 3, 2);
        dueStill("r2m6d0-1w1:0", "x0@3-5", 3, 2);
        dueStill("r2m6d0-1w1:0", "x0@2-4", 3, 2);
        dueStill("r2m6d0-1w1:0", "x0@2-4", 4, 1);
        Edge.of("26: of minutes apart nothing is added up");
        dueStill("r2m5D0-1w1:0", "s0@2", 2, 2);
        dueStill("r2m5D0-1w1:0", "s0@2", 3, 0);
        dueStill("r2m5D0-1w1:0", "s0@0s0@4", 3, 2);
        dueStill("r2m5D0-1w1:0", "s0@0s0@4", 4, 0);
        dueStill("r2m5D0-1w1:0", "s0@1s0@3", 1, 2);
        dueStill("r2m5D0-1w1:0", "s0@1s0@3", 2, 0);
        Edge.of("26: that WALKER alone");
        x = Make.night("r2m3D0-1w1:0w1:1w1:1", "y1/0@1s0@0y1/0@3 y1/1@1y1/2@1y1/1@3y1/2@3");
        for (int w = 0; w < 3; w++) {
            Edge.plain(x, "still(" + w + ", 3)", w == 0 ? 0 : 2, stillCall(w, 3));
            Edge.plain(x, "still(" + w + ", 2)", 2, stillCall(w, 2));
        }
        Edge.of("26 BAD: n that is not 1 .. 30; a WALKER that there is not; ahead of NOUGHT");
        for (String night : new String[] {"", CANNOT}) {
            x = Make.night("r2m5w1:0w1:0", night);
            for (int n : new int[] {0, -1, 31, 32, 64, 65, Edge.MAX, Edge.MIN}) Edge.refused(x, "still(0, " + n + ")", Edge.BAD, stillCall(0, n));
            for (int w : Edge.beyond(2)) Edge.refused(x, "still(" + w + ", 1)", Edge.BAD, stillCall(w, 1));
            x = Make.night("r2m5", night);
            Edge.refused(x, "still(0, 1) of nobody", Edge.BAD, stillCall(0, 1));
        }
        Edge.of("26 NOUGHT");
        x = Make.night("r2m5w1:0", "y1@5");
        Edge.found(x, "still(0, 1)", Edge.NOUGHT, stillCall(0, 1));
        Edge.found(x, "still(0, 30)", Edge.NOUGHT, stillCall(0, 30));
    }

    private static void lay(int r, int... rooms) {
        x.row(r, rooms.length);
        for (int t = 0; t < rooms.length; t++) x.lay(r, t, rooms[t]);
    }

    private static Edge.Call judgeCall(int w, int r) {
        return () -> x.judge(w, r);
    }

    private static void dueJudge(int w, int want, int... rooms) {
        lay(3, rooms);
        String call = "judge(" + w + ", 3) of " + java.util.Arrays.toString(rooms);
        if (want == Edge.NONE) Edge.refused(x, call, want, judgeCall(w, 3));
        else Edge.plain(x, call, want, judgeCall(w, 3));
    }

    private static void judge() {
        Edge.of("27: NONE: it can be so");
        x = Make.house("r3m3d0-1d1-2w1:0w2:*");
        dueJudge(0, Edge.NONE, 0, 0, 0, 0);
        dueJudge(0, Edge.NONE, 0, 1, 2, 1);
        dueJudge(1, Edge.NONE, 2, 1, 1, 0);
        x = Make.house("r1m1w1:0");
        dueJudge(0, Edge.NONE, 0, 0);
        x = Make.house("r6m30w1:5");
        int[] longest = new int[31];
        java.util.Arrays.fill(longest, 5);
        dueJudge(0, Edge.NONE, longest);
        longest[30] = 4;
        dueJudge(0, 30, longest);
        Edge.of("27: the first minute at which it cannot be: 0 to LAST");
        x = Make.house("r3m3d0-1d1-2w1:0w2:*");
        dueJudge(0, 0, 1, 1, 1, 1);
        dueJudge(0, 1, 0, 2, 2, 2);
        dueJudge(0, 2, 0, 0, 2, 2);
        dueJudge(0, 3, 0, 1, 2, 0);
        dueJudge(1, 2, 0, 1, 2, 2);
        dueJudge(1, 3, 0, 0, 0, 2);
        Edge.of("27: all ROOMS till then told so");
        x = Make.night("r3m3d0-1d1-2w1:0", "x0@1-2");
        dueJudge(0, 2, 0, 0, 1, 1);
        dueJudge(0, 3, 0, 1, 1, 0);
        dueJudge(0, Edge.NONE, 0, 1, 1, 2);
        Edge.of("27: in any WAY to the end, by what all EVENTS tell");
        x = Make.night("r3m3d0-1d1-2w1:0", "y2@3");
        dueJudge(0, 2, 0, 0, 0, 0);
        dueJudge(0, 2, 0, 0, 0, 1);
        dueJudge(0, 3, 0, 0, 1, 1);
        dueJudge(0, Edge.NONE, 0, 0, 1, 2);
        x = Make.night("r2m3D0-1w1:0w1:0", "s0@0y1/0@1");
        dueJudge(0, 1, 0, 0, 0, 0);
        dueJudge(1, Edge.NONE, 0, 0, 0, 0);
        dueJudge(1, Edge.NONE, 0, 1, 1, 1);
    }

    private static void judgeRefused() {
        Edge.of("27 UNLIKE: a number that is no ROOM, at any place");
        for (String night : new String[] {"", CANNOT}) {
            x = Make.night("r3m3d0-1d1-2w1:0", night);
            for (int room : Edge.beyond(3)) {
                for (int i = 0; i <= 3; i++) {
                    lay(3, 0, 0, 0, 0);
                    x.lay(3, i, room);
                    Edge.found(x, "judge(0, 3) with " + room + " at " + i, Edge.UNLIKE, judgeCall(0, 3));
                }
            }
        }
        Edge.of("27 SIZE: not LAST and 1; ahead of UNLIKE");
        for (String night : new String[] {"", CANNOT}) {
            x = Make.night("r3m3w1:0", night);
            for (int n : new int[] {0, 1, 3, 5, 40}) {
                x.row(3, n);
                Edge.found(x, "judge(0, 3) of " + n, Edge.SIZE, judgeCall(0, 3));
                for (int i = 0; i < n; i++) x.lay(3, i, 9);
                Edge.found(x, "judge(0, 3) of " + n + " of no ROOM", Edge.SIZE, judgeCall(0, 3));
            }
        }
        x = Make.house("r1m30w1:0");
        for (int n : new int[] {30, 32, 40}) {
            x.row(3, n);
            Edge.found(x, "judge(0, 3) of " + n + ", LAST 30", Edge.SIZE, judgeCall(0, 3));
        }
        Edge.of("27: what stood in a longer ROW ahead is not looked at");
        x = Make.house("r3m3w1:0");
        lay(3, 9, 9, 9, 9, 9, 9);
        lay(3, 0, 0, 0, 0);
        Edge.refused(x, "judge(0, 3)", Edge.NONE, judgeCall(0, 3));
        Edge.of("27 NOTHING: a ROW that is missing; ahead of SIZE and NOUGHT");
        for (String night : new String[] {"", CANNOT}) {
            x = Make.night("r3m3w1:0", night);
            for (int r = 0; r <= 5; r++) Edge.found(x, "judge(0, " + r + ")", Edge.NOTHING, judgeCall(0, r));
        }
        Edge.of("27 BAD: a WALKER, a ROW that there is not; ahead of NOTHING");
        x = Make.house("r3m3w1:0w1:0");
        for (int r : Edge.beyond(6)) Edge.refused(x, "judge(0, " + r + ")", Edge.BAD, judgeCall(0, r));
        for (int w : Edge.beyond(2)) Edge.refused(x, "judge(" + w + ", 0)", Edge.BAD, judgeCall(w, 0));
        x = new CreakBoards();
        Edge.refused(x, "judge(0, 0) of nobody", Edge.BAD, judgeCall(0, 0));
        Edge.of("27 NOUGHT: behind all others");
        x = Make.night("r3m3w1:0", "y1@3");
        lay(0, 0, 0, 0, 0);
        Edge.found(x, "judge(0, 0)", Edge.NOUGHT, judgeCall(0, 0));
    }

    private static Edge.Call wayCall(int w, int r) {
        return () -> x.way(w, r);
    }

    private static void dueWay(int w, int r, int... rooms) {
        Edge.plain(x, "way(" + w + ", " + r + ")", rooms.length, wayCall(w, r));
        for (int t = 0; t < rooms.length; t++) Edge.tells(x, "way(" + w + ", " + r + ") at " + t, x.at(r, t), 1, rooms[t]);
        Edge.found(x, "way(" + w + ", " + r + "): no more places", Edge.BEYOND, () -> x.at(r, rooms.length));
        Edge.refused(x, "way(" + w + ", " + r + ") judged", Edge.NONE, judgeCall(w, r));
    }

    private static void way() {
        Edge.of("28: to a ROW (anew), missing or not, longer or shorter");
        x = Make.house("r6m2d4-5w1:5");
        dueWay(0, 0, 5, 4, 4);
        x.row(5, 40);
        dueWay(0, 5, 5, 4, 4);
        x.row(1, 0);
        dueWay(0, 1, 5, 4, 4);
        Edge.due("count(6)", x.count(6), 3);
        Edge.of("28: the longest, the shortest");
        x = Make.house("r1m1w1:0");
        dueWay(0, 2, 0, 0);
        x = Make.night("r2m30d0-1w2:1", "y0@29y1@30");
        int[] rooms = new int[31];
        rooms[0] = 1;
        rooms[30] = 1;
        dueWay(0, 2, rooms);
        Edge.of("28: the least ROOM at the first unlike minute");
        x = Make.house("r3m3d0-2d1-2w1:12");
        dueWay(0, 0, 1, 1, 1, 1);
        x.event(3, 0, 0, 3);
        dueWay(0, 0, 1, 1, 2, 0);
        x.event(5, 0, 2, 2);
        dueWay(0, 0, 1, 2, 0, 0);
        x.event(5, 1, 0, 0);
        dueWay(0, 0, 2, 0, 0, 0);
        Edge.of("28: of each WALKER his own first row");
        x = Make.night("r2m2D0-1w1:0w2:0w1:1", "s0@0");
        dueWay(0, 0, 0, 0, 0);
        dueWay(1, 1, 0, 0, 0);
        dueWay(2, 2, 1, 0, 0);
        x.event(3, 1, 2, 1);
        dueWay(0, 0, 0, 0, 0);
        dueWay(1, 1, 0, 0, 0);
        dueWay(2, 2, 1, 1, 1);
        x.event(3, 0, 1, 1);
        dueWay(0, 0, 0, 1, 1);
        Edge.of("28 BAD: a WALKER, a ROW that there is not; ahead of NOUGHT");
        for (String night : new String[] {"", CANNOT}) {
            x = Make.night("r3m3w1:0w1:0", night);
            for (int r : Edge.beyond(6)) Edge.refused(x, "way(0, " + r + ")", Edge.BAD, wayCall(0, r));
            for (int w : Edge.beyond(2)) Edge.refused(x, "way(" + w + ", 0)", Edge.BAD, wayCall(w, 0));
            x = Make.night("r3m3", night);
            Edge.refused(x, "way(0, 0) of nobody", Edge.BAD, wayCall(0, 0));
        }
        Edge.of("28 NOUGHT: the ROW stays as it was");
        x = Make.night("r3m3w1:0", "y1@3");
        lay(0, 7, 8);
        Edge.found(x, "way(0, 0)", Edge.NOUGHT, wayCall(0, 0));
        Edge.found(x, "way(0, 1), missing", Edge.NOUGHT, wayCall(0, 1));
        Edge.tells(x, "at(0, 1)", x.at(0, 1), 1, 8);
        Edge.due("count(6)", x.count(6), 1);
    }

    public static void main(String[] args) {
        empty();
        met();
        still();
        judge();
        judgeRefused();
        way();
        Edge.end("EdgeWhoTest");
    }
}
