/** Promises 19 to 28: could, fewest, ways, rooms, empty, where, met, still, judge, way. */
public final class WaysTest {
    private static void dueAsked(CreakBoards x, String call, long got, long want, long asked) {
        Check.due(call, got, want);
        Check.due(call + " asked()", x.asked(), asked);
    }

    private static void dueCould(String house, String night, int firstMinute) {
        CreakBoards x = Make.night(house, night);
        x.row(5, 1);
        x.lay(5, 0, 77);
        x.at(5, 0);
        Check.due("could() of " + house + ": " + night, x.could(), firstMinute < 0 ? 1 : 0);
        Check.due("could() asked() of " + house + ": " + night, x.asked(), firstMinute < 0 ? 77 : firstMinute);
    }

    private static void could() {
        dueCould("r1", "", -1);
        dueCould("r1", "n0@12", -1);
        dueCould("r1", "y0@5", 5);
        dueCould("r2 D0-1", "s0@3", 4);
        dueCould("r2 D0-1", "x0@0-11", -1);
        dueCould("r2 m4 D0-1 w1:0", "s0@0s0@1s0@2s0@3", -1);
        dueCould("r2 m4 D0-1 w2:0", "s0@0s0@1s0@2s0@3", 2);
        dueCould("r2 m4 D0-1 w2:0", "s0@0s0@2", -1);
        dueCould("r2 m4 D0-1 w2:0w2:0", "s0@0s0@1s0@2s0@3", -1);
        dueCould("r2 m4 D0-1 w1:0", "y1@1", 1);
        dueCould("r2 m4 d0-1 w1:0", "y1@1", -1);
        dueCould("r2 m4 d0-1 w1:0", "y1@0", 0);
        dueCould("r2 m4 d0-1 w1:0", "x0@0-2 y1@3", 3);
        dueCould("r2 m4 d0-1 w1:0", "x0@0-1 y1@3", -1);
        dueCould("r2 m4 d0-1d0-1 w1:0", "x0@0-3 y1@1", -1);
        dueCould("r2 m4 D0-1D0-1 w1:0", "s0@0s1@0", 1);
        dueCould("r2 m4 D0-1D0-1 w1:0w1:1", "s0@0s1@0", -1);
        dueCould("r2 m4 D0-1 w1:0w1:1", "s0@0 y1/0@1 y0/1@1", -1);
        dueCould("r2 m4 D0-1 w1:0", "s0@0 x0@0-0", 1);
        dueCould("r2 m4 d0-1 w1:01", "y0/0@2 y1/0@2", 2);
        dueCould("r2 m4 w1:01", "n0@3 y0@4", 4);
        dueCould("r2 m4 w1:01", "y0@4 n0@3", 4);
        dueCould("r3 m4 d0-1d1-2 w2:0", "y2@2", 2);
        dueCould("r3 m4 d0-1d1-2 w2:0", "y2@3", -1);
        dueCould("r3 m4 d0-1d1-2 w1:0", "y2@2", -1);
        CreakBoards x = Make.night("r2 m4 d0-1 w1:0", "y1@0");
        x.could();
        x.back(0);
        dueAsked(x, "could() behind back(0)", x.could(), 1, 0);
        x.event(4, 0, 0, 0);
        dueAsked(x, "could() behind event(4, 0, 0, 0)", x.could(), 0, 0);
        Make.text(x, 0, "r2 m4 w1:01");
        x.house(0);
        Check.due("could() of another house", x.could(), 1);
        Make.text(x, 0, "n1@2 n0@2");
        x.night(0);
        dueAsked(x, "could() behind night(0)", x.could(), 0, 2);
    }

    private static void fewest() {
        Check.due("fewest() of nobody", new CreakBoards().fewest(), 0);
        Check.due("fewest() of a quiet night", Make.house("r2 w1:* w1:*").fewest(), 0);
        Check.due("fewest(): the first", Make.night("r2 w1:0 w1:1", "y0@3").fewest(), 1);
        Check.due("fewest(): the second, too", Make.night("r2 w1:0 w1:1", "y1@3").fewest(), 2);
        Check.due("fewest(): all", Make.night("r2 w1:0 w1:1 w2:*", "y1@3 y0@3 y0/2@0").fewest(), 3);
        Check.due("fewest(): THIS of the second", Make.night("r2 w1:* w1:*", "y0/1@3").fewest(), 2);
        Check.due("fewest(): NONE", Make.night("r2 w1:0 w1:0", "y1@3").fewest(), -9);
        Check.due("fewest(): more would be wrong", Make.night("r2 w1:0 w1:1", "y0@3 n1@3").fewest(), 1);
        Check.due("fewest(): too many told", Make.night("r2 w1:1 w1:0", "y0@3 n1@3").fewest(), -9);
    }

    private static void dueWays(String house, String night, long many) {
        CreakBoards x = Make.night(house, night);
        Check.due("ways() of " + house + ": " + night, x.ways(), many > 0 ? 1 : 0);
        Check.due("many() of " + house + ": " + night, x.many(), many);
    }

    private static void ways() {
        dueWays("r1", "", 1);
        dueWays("r1", "y0@0", 0);
        dueWays("r1 m5 w1:*w2:*w1:0", "", 1);
        dueWays("r2 m5 d0-1 w1:0", "", 32);
        dueWays("r2 m5 d0-1 w1:*", "", 64);
        dueWays("r2 m5 d0-1d1-0 w1:0", "", 243);
        dueWays("r2 m5 d0-1 w2:0", "", 13);
        dueWays("r2 m5 d0-1d0-1 w2:0", "", 43);
        dueWays("r2 m5 D0-1 w1:0", "", 1);
        dueWays("r2 m5 D0-1 w1:0w1:0", "s0@2", 3);
        dueWays("r2 m5 D0-1 w1:0w1:0", "s0@2s0@2", 3);
        dueWays("r2 m5 D0-1D0-1 w1:0w1:0", "s0@2s1@2", 2);
        String edge = "r5 m15 d0-1d0-1d0-1d0-1d2-3 w1:0 w1:2";
        dueWays(edge, "", 1000000000000000L);
        dueWays(edge + "w1:4", "", 1000000000000000L);
        dueWays(edge + "w1:*", "n0@0 n1@0", 0);
        CreakBoards x = Make.house(edge + "w1:14");
        Check.due("ways() SPENT", x.ways(), -6);
        Check.due("many() stays", x.many(), 0);
        x.event(3, 4, 2, 7);
        Check.due("ways() of just as many", x.ways(), 1);
        Check.due("many() of just as many", x.many(), 1000000000000000L);
        x.back(0);
        x.ways();
        Check.due("many() stays behind SPENT", x.many(), 1000000000000000L);
        x.event(3, 4, 2, 7);
        x.event(5, 4, 14, 14);
        x.ways();
        Check.due("many() of half as many", x.many(), 500000000000000L);
        Check.due("ways() of the most there are", Make.house("r2 m30 d0-1d0-1d0-1d0-1d0-1d0-1d0-1d0-1 w1:*w1:*w1:*").ways(), -6);
    }

    private static void roomsEmptyWhere() {
        CreakBoards x = Make.night("r4 m4 d0-1d1-2 w1:0 w2:0 w1:3", "y2@3");
        dueAsked(x, "rooms(0, 0)", x.rooms(0, 0), 2, 2);
        dueAsked(x, "rooms(3, 4)", x.rooms(3, 4), 1, 1);
        dueAsked(x, "rooms(2, 3)", x.rooms(2, 3), 1, 2);
        dueAsked(x, "rooms(1, 1)", x.rooms(1, 1), 0, 2);
        dueAsked(x, "rooms(2, 1)", x.rooms(2, 1), 0, 0);
        dueAsked(x, "empty(0)", x.empty(0), 6, 9);
        dueAsked(x, "empty(1)", x.empty(1), 4, 8);
        dueAsked(x, "empty(3)", x.empty(3), 0, 12);
        Check.due("where(0, 0)", x.where(0, 0), 1);
        Check.due("where(1, 2)", x.where(1, 2), 3);
        Check.due("where(0, 2)", x.where(0, 2), 7);
        Check.due("where(2, 2)", x.where(2, 2), 8);
        Check.due("rooms(4, 0)", x.rooms(4, 0), -1);
        Check.due("rooms(-1, 0)", x.rooms(-1, 0), -1);
        Check.due("rooms(0, 5)", x.rooms(0, 5), -1);
        Check.due("rooms(0, -1)", x.rooms(0, -1), -1);
        Check.due("empty(5)", x.empty(5), -1);
        Check.due("empty(-1)", x.empty(-1), -1);
        Check.due("where(3, 0)", x.where(3, 0), -1);
        Check.due("where(-1, 0)", x.where(-1, 0), -1);
        Check.due("where(0, 5)", x.where(0, 5), -1);
        Check.due("asked() stays", x.asked(), 12);
        Check.due("where(0, 2) asks nothing", x.where(0, 2), 7);
        x.event(4, 3, 0, 0);
        Check.due("rooms(0, 0) NOUGHT", x.rooms(0, 0), -3);
        Check.due("empty(0) NOUGHT", x.empty(0), -3);
        Check.due("where(0, 0) NOUGHT", x.where(0, 0), -3);
        Check.due("finding() NOUGHT", x.finding(), 4);
        Check.due("findings(4)", x.findings(4), 3);
        Check.due("BAD ahead of NOUGHT", x.rooms(4, 0) + x.empty(5) + x.where(3, 0), -3);
        Check.due("findings(4) stays", x.findings(4), 3);
        x = new CreakBoards();
        dueAsked(x, "empty(12) of nobody", x.empty(12), 1, 0);
    }

    private static void met() {
        CreakBoards x = Make.night("r3 m4 d0-1 w1:0 w1:1 w1:2", "x0@0-1");
        dueAsked(x, "met(0, 1)", x.met(0, 1), 1, 3);
        dueAsked(x, "met(1, 0)", x.met(1, 0), 1, 3);
        dueAsked(x, "met(0, 2)", x.met(0, 2), 0, -9);
        x.event(3, 0, 1, 4);
        dueAsked(x, "met(0, 1) still may not", x.met(0, 1), 1, 3);
        x.event(4, 1, 0, 4);
        dueAsked(x, "met(0, 1) must", x.met(0, 1), 2, 3);
        x.event(5, 0, 3, 3);
        dueAsked(x, "met(0, 1) must at 3", x.met(0, 1), 2, 3);
        Check.due("met(0, 0)", x.met(0, 0), -1);
        Check.due("met(0, 3)", x.met(0, 3), -1);
        Check.due("met(-1, 0)", x.met(-1, 0), -1);
        x.event(4, 2, 0, 1);
        Check.due("met(0, 1) NOUGHT", x.met(0, 1), -3);
        Check.due("finding() NOUGHT", x.finding(), 4);
        Check.due("met(2, 2)", x.met(2, 2), -1);
        x = Make.house("r2 m3 w1:0 w2:0 w1:*");
        dueAsked(x, "met at 0, must", x.met(0, 1), 2, 0);
        dueAsked(x, "met at 0, may", x.met(0, 2), 1, 0);
        x = Make.night("r2 m1 D0-1 w1:0 w1:1", "s0@0");
        dueAsked(x, "met(0, 1): one goes, or both pass by", x.met(0, 1), 1, 1);
    }

    private static void still() {
        CreakBoards x = Make.night("r2 m6 d0-1 w1:0 w2:0", "y1/0@2 y0/0@4");
        Check.due("still(0, 1)", x.still(0, 1), 2);
        Check.due("still(0, 2)", x.still(0, 2), 1);
        Check.due("still(0, 3)", x.still(0, 3), 1);
        Check.due("still(0, 4)", x.still(0, 4), 0);
        Check.due("still(1, 1)", x.still(1, 1), 2);
        Check.due("still(1, 6)", x.still(1, 6), 1);
        Check.due("still(1, 7)", x.still(1, 7), 0);
        Check.due("still(1, 30)", x.still(1, 30), 0);
        Check.due("still(0, 0)", x.still(0, 0), -1);
        Check.due("still(0, 31)", x.still(0, 31), -1);
        Check.due("still(2, 1)", x.still(2, 1), -1);
        Check.due("still(0, min)", x.still(0, Integer.MIN_VALUE), -1);
        x.event(5, 0, 5, 0);
        Check.due("still(0, 1) NOUGHT", x.still(0, 1), -3);
        x.back(2);
        x.event(5, 0, 5, 4);
        Check.due("still(0, 2) at the end", x.still(0, 2), 2);
        Check.due("still(0, 3) with the end", x.still(0, 3), 1);
        x = Make.house("r1 m30 w1:0");
        Check.due("still(0, 30)", x.still(0, 30), 2);
        x = Make.house("r2 m1 d0-1 w1:0");
        Check.due("still(0, 1) of one minute", x.still(0, 1), 1);
    }

    private static void dueJudge(CreakBoards x, int w, int want, int... told) {
        x.row(4, told.length);
        for (int i = 0; i < told.length; i++) x.lay(4, i, told[i]);
        Check.due("judge(" + w + ", " + java.util.Arrays.toString(told) + ")", x.judge(w, 4), want);
    }

    private static void judge() {
        CreakBoards x = Make.night("r3 m4 D0-1 d1-2 w1:0 w2:12", "s0@0 y2@4");
        dueJudge(x, 0, -9, 0, 1, 2, 2, 2);
        dueJudge(x, 0, -9, 0, 1, 1, 1, 1);
        dueJudge(x, 0, 1, 0, 0, 0, 0, 0);
        dueJudge(x, 0, 0, 1, 1, 1, 1, 1);
        dueJudge(x, 0, 1, 0, 2, 2, 2, 2);
        dueJudge(x, 0, 2, 0, 1, 0, 1, 1);
        dueJudge(x, 1, -9, 1, 0, 0, 0, 0);
        dueJudge(x, 1, 4, 1, 2, 2, 1, 2);
        dueJudge(x, 1, 2, 1, 2, 1, 1, 1);
        x.event(3, 2, 0, 4);
        dueJudge(x, 0, 4, 0, 1, 2, 2, 1);
        dueJudge(x, 0, 1, 0, 0, 0, 0, 0);
        x.row(4, 4);
        Check.due("judge(0, 4) of 4", x.judge(0, 4), -3);
        Check.due("judge finding() SIZE", x.finding(), 5);
        x.row(4, 6);
        Check.due("judge(0, 4) of 6", x.judge(0, 4), -3);
        Check.due("judge finding() SIZE", x.finding(), 5);
        dueJudge(x, 0, -3, 0, 1, 3, 2, 2);
        Check.due("judge finding() UNLIKE", x.finding(), 3);
        dueJudge(x, 0, -3, 3, 1, 2, 2, 2);
        Check.due("judge finding() UNLIKE", x.finding(), 3);
        dueJudge(x, 0, -3, 0, 1, 2, 2, -1);
        Check.due("judge finding() UNLIKE", x.finding(), 3);
        x.tear(4);
        Check.due("judge(0, 4), missing", x.judge(0, 4), -3);
        Check.due("judge finding() NOTHING", x.finding(), 1);
        Check.due("judge(2, 4)", x.judge(2, 4), -1);
        Check.due("judge(0, 6)", x.judge(0, 6), -1);
        Check.due("judge(-1, -1)", x.judge(-1, -1), -1);
        x.event(4, 2, 0, 4);
        dueJudge(x, 0, -3, 0, 1, 2, 2, 2);
        Check.due("judge finding() NOUGHT", x.finding(), 4);
        dueJudge(x, 0, -3, 0, 1, 2, 2, 3);
        Check.due("UNLIKE ahead of NOUGHT", x.finding(), 3);
        dueJudge(x, 0, -3, 0, 1, 2, 2, 3, 9);
        Check.due("SIZE ahead of UNLIKE", x.finding(), 5);
    }

    private static void dueWay(CreakBoards x, int w, int... rooms) {
        Check.due("way(" + w + ", 5)", x.way(w, 5), rooms.length);
        for (int t = 0; t < rooms.length; t++) {
            Check.due("way(" + w + ", 5) at " + t, x.at(5, t), 1);
            Check.due("way(" + w + ", 5) asked at " + t, x.asked(), rooms[t]);
        }
        Check.due("way(" + w + ", 5) size", x.at(5, rooms.length), -3);
    }

    private static void way() {
        CreakBoards x = Make.night("r3 m4 D0-1 d1-2 w1:0 w2:12", "s0@0 y2@4");
        dueWay(x, 0, 0, 1, 1, 1, 1);
        dueWay(x, 1, 1, 0, 0, 0, 0);
        x.event(3, 1, 1, 1);
        dueWay(x, 0, 0, 1, 1, 1, 1);
        dueWay(x, 1, 1, 1, 1, 1, 1);
        x.event(4, 1, 0, 3);
        dueWay(x, 0, 0, 1, 1, 2, 1);
        dueWay(x, 1, 1, 1, 1, 2, 2);
        dueWay(Make.house("r6 m1 w1:5"), 0, 5, 5);
        dueWay(Make.house("r6 m2 d4-5 w2:5"), 0, 5, 4, 4);
        long digest = x.digest();
        Check.due("way(2, 5)", x.way(2, 5), -1);
        Check.due("way(0, 6)", x.way(0, 6), -1);
        Check.due("way(0, -1)", x.way(0, -1), -1);
        x.event(4, 0, 0, 0);
        Check.due("way(0, 5) NOUGHT", x.way(0, 5), -3);
        Check.due("way(0, 4) NOUGHT", x.way(0, 4), -3);
        Check.due("way finding() NOUGHT", x.finding(), 4);
        x.back(4);
        Check.due("refused changes nothing", x.digest(), digest);
    }

    /** Of an object that had another house: nothing of that one is left. */
    private static void houseBehindHouse() {
        CreakBoards x = Make.night("r4 m12 D0-1 d1-2 d2-3 d0-1 w2:* w1:* w2:01", "s0@3 s0@7 y2@3 n1@12");
        x.empty(3);
        x.passes(0);
        Check.due("passes(1) of the first house", x.passes(1), 12);
        Make.text(x, 0, "r2 m3 d0-1 d0-1 w1:0");
        x.house(0);
        Check.due("many ways of the next house", x.ways() * x.many(), 27);
        dueAsked(x, "passes(0) of the next house", x.passes(0), 3, 0);
        dueAsked(x, "rooms(1, 3) of the next house", x.rooms(1, 3), 0, 1);
        dueAsked(x, "empty(0) of the next house", x.empty(0), 2, 1);
        Check.due("still(0, 3) of the next house", x.still(0, 3), 1);
        Check.due("where(1, 0) of the next house", x.where(1, 0), -1);
        x.event(4, 0, 0, 2);
        x.event(4, 1, 0, 2);
        Check.due("stuck() of the next house", x.stuck(), -9);
        Make.text(x, 0, "r3 m30 D0-1 D1-2 w1:0 w1:0 w1:2");
        x.house(0);
        x.event(2, 2, 0, 30);
        x.event(1, 0, 0, 29);
        dueAsked(x, "passes(0) of the third house", x.passes(0), 1, 1);
        Check.due("whose(1) of the third house", x.whose(1), 3);
    }

    public static void main(String[] args) {
        houseBehindHouse();
        could();
        fewest();
        ways();
        roomsEmptyWhere();
        met();
        still();
        judge();
        way();
        Check.end("WaysTest");
    }
}
