/** Promises 10 to 12: what is a fault in a text of a house or a night, and what comes of one without a fault. */
public final class ReadingTest {
    private static void dueHouse(String text, int fault) {
        CreakBoards x = new CreakBoards();
        Make.text(x, 2, text);
        Check.due("fault of house '" + text + "'", x.fault(2, false), fault);
        Check.due("count(0) stays, '" + text + "'", x.count(0), 1);
        if (fault != -9) Check.due("house '" + text + "'", x.house(2), -4);
        else Check.yes("house '" + text + "' comes", x.house(2) >= 0);
    }

    private static void houses() {
        dueHouse("", 0);
        dueHouse("   ", 3);
        dueHouse("r", 1);
        dueHouse("  r ", 3);
        for (int rooms = 0; rooms <= 9; rooms++) dueHouse("r" + rooms, rooms >= 1 && rooms <= 6 ? -9 : 1);
        dueHouse("r12", 2);
        dueHouse("R2", 0);
        dueHouse("m5 r2", 0);
        dueHouse("w1:0", 0);
        dueHouse("  r2  ", -9);
        dueHouse("r2r2", 2);
        dueHouse("r2 q", 3);
        dueHouse("r2\0", 2);
        dueHouse("r2\t", 2);
        dueHouse("r2-", 2);
        dueHouse("r2 x0@1-1", 3);
        CreakBoards x = new CreakBoards();
        Make.text(x, 0, "r2  ");
        x.put(0, 3, 32 + 128);
        Check.due("fault of a byte below 0", x.fault(0, false), 3);
    }

    private static void doors() {
        dueHouse("r2d0-1", -9);
        dueHouse("r2d1-0D0-1d0-1", -9);
        dueHouse("r2 d", 4);
        dueHouse("r2 d0", 5);
        dueHouse("r2 d0-", 6);
        dueHouse("r2 d 0-1", 4);
        dueHouse("r2 d0 -1", 5);
        dueHouse("r2 d0- 1", 6);
        dueHouse("r2 d2-1", 4);
        dueHouse("r2 D-0-1", 4);
        dueHouse("r2 d0+1", 5);
        dueHouse("r2 d0-2", 6);
        dueHouse("r2 D0-0", 6);
        dueHouse("r2 d1-1", 6);
        dueHouse("r6 d5-0 d0-5 d4-3", -9);
        dueHouse("r2 d0-12", 7);
        dueHouse("r1 d0-0", 6);
        dueHouse("r1 d0-1", 6);
        String eight = "r2 d0-1D0-1d0-1D0-1d0-1D0-1d0-1D0-1";
        dueHouse(eight, -9);
        dueHouse(eight + "d", eight.length());
        dueHouse(eight + " D0-1", eight.length() + 1);
        dueHouse(eight + "m3", -9);
    }

    /** What stood in a longer text ahead is no part of a shorter one. */
    private static void textsAnew() {
        CreakBoards x = new CreakBoards();
        Make.text(x, 0, "r2 d0-1 m12 w1:01");
        for (int size = 17; size > 0; size--) {
            String text = "r2 d0-1 m12 w1:01".substring(0, size);
            Make.text(x, 0, text);
            CreakBoards y = new CreakBoards();
            Make.text(y, 0, text);
            Check.due("fault of '" + text + "', anew", x.fault(0, false), y.fault(0, false));
            if (!text.matches("r2|r2 |r2 d0-1 ?|r2 d0-1 m1|r2 d0-1 m12 ?|r2 d0-1 m12 w1:01?")) {
                Check.due("fault of '" + text + "', the end", x.fault(0, false), size);
            }
        }
        StringBuilder full = new StringBuilder("r2");
        while (full.length() < 80) full.append("m1");
        dueHouse(full.toString(), -9);
        dueHouse(full.substring(0, 78) + " w", 80);
        dueHouse(full.substring(0, 78) + "w1", 80);
    }

    private static void minutes() {
        dueHouse("r2 m", 4);
        dueHouse("r2 m ", 4);
        dueHouse("r2 mx", 4);
        dueHouse("r2 m0", 5);
        dueHouse("r2 m00", 6);
        dueHouse("r2 m0 m5", 5);
        dueHouse("r2 m1", -9);
        dueHouse("r2 m01", -9);
        dueHouse("r2 m30", -9);
        dueHouse("r2 m31", 6);
        dueHouse("r2 m99d0-1", 6);
        dueHouse("r2 m123", 6);
        dueHouse("r2 m1 2", 6);
        dueHouse("r2m5m30m7", -9);
        dueHouse("r2 m-1", 4);
        CreakBoards x = Make.house("r2 m5 d0-1 m30m7");
        Check.due("the last minute told counts", x.count(3), 7);
        Check.due("12, if not told", Make.house("r2").count(3), 12);
    }

    private static void walkers() {
        dueHouse("r3 w", 4);
        dueHouse("r3 w0:*", 4);
        dueHouse("r3 w3:*", 4);
        dueHouse("r3 w1", 5);
        dueHouse("r3 w1*", 5);
        dueHouse("r3 w1:", 6);
        dueHouse("r3 w1: 0", 6);
        dueHouse("r3 w1:x", 6);
        dueHouse("r3 w1:3", 6);
        dueHouse("r3 w1:012", -9);
        dueHouse("r3 w2:02w1:1", -9);
        dueHouse("r3 w1:10", 7);
        dueHouse("r3 w1:00", 7);
        dueHouse("r3 w1:03", 7);
        dueHouse("r3 w1:0123", 9);
        dueHouse("r6 w1:012345", -9);
        dueHouse("r6 w1:0123456", 12);
        dueHouse("r6 w1:0123455", 12);
        dueHouse("r3 w1:*0", 7);
        dueHouse("r3 w1:**", 7);
        dueHouse("r3 w1:0*", 7);
        dueHouse("r3 w1:0w2:1w1:*", -9);
        dueHouse("r3 w1:0w2:1w1:*w", 15);
        dueHouse("r3 w1:0w2:1w1:* w1:0", 16);
    }

    private static void dueNight(String text, int fault) {
        CreakBoards x = Make.house("r3 m12 D0-1 d1-2 w1:0 w2:*");
        Make.text(x, 3, text);
        Check.due("fault of night '" + text + "'", x.fault(3, true), fault);
        Check.due("no event by fault, '" + text + "'", x.count(4), 0);
        if (fault != -9) Check.due("night '" + text + "'", x.night(3), -4);
        else Check.yes("night '" + text + "' comes", x.night(3) >= 0);
    }

    private static void nights() {
        dueNight("", -9);
        dueNight("    ", -9);
        dueNight("  s0@0y2@12n0@00x1@0-11  ", -9);
        dueNight("q", 0);
        dueNight(" 0", 1);
        dueNight("s", 1);
        dueNight("s1@0", 1);
        dueNight("s2@0", 1);
        dueNight("s 0@0", 1);
        dueNight("s0", 2);
        dueNight("s0-1", 2);
        dueNight("s0@", 3);
        dueNight("s0@ 1", 3);
        dueNight("s0@11", -9);
        dueNight("s0@12", 5);
        dueNight("s0@99", 5);
        dueNight("s0@111", 5);
        dueNight("y3@0", 1);
        dueNight("y", 1);
        dueNight("y0", 2);
        dueNight("y0@", 3);
        dueNight("y0@12", -9);
        dueNight("y0@13", 5);
        dueNight("y0/", 3);
        dueNight("y0/2@1", 3);
        dueNight("y0/1", 4);
        dueNight("y0/1/1@0", 4);
        dueNight("y0/1@", 5);
        dueNight("y0/1@12", -9);
        dueNight("y0/1@13", 7);
        dueNight("y/0@1", 1);
        dueNight("n0/1@1", 2);
        dueNight("n3@1", 1);
        dueNight("n2@12n2@13", 10);
        dueNight("x2@0-1", 1);
        dueNight("x0@0-0", -9);
        dueNight("x0@0", 4);
        dueNight("x0@0 -1", 4);
        dueNight("x0@0-", 5);
        dueNight("x0@12-12", 5);
        dueNight("x0@11-11", -9);
        dueNight("x0@11-12", 8);
        dueNight("x0@5-4", 6);
        dueNight("x0@5-05", -9);
        dueNight("r3", 0);
    }

    private static void nightOfNoHouse() {
        CreakBoards x = new CreakBoards();
        Make.text(x, 0, "s0@0");
        Check.due("no door", x.fault(0, true), 1);
        Make.text(x, 0, "y0/0@0");
        Check.due("no walker", x.fault(0, true), 3);
        Make.text(x, 0, "n0@12y0@0");
        Check.due("one room till 12", x.fault(0, true), -9);
    }

    private static void refused() {
        CreakBoards x = new CreakBoards();
        for (int t : new int[] {-1, 4, Integer.MAX_VALUE, Integer.MIN_VALUE}) {
            Check.due("fault(" + t + ", false)", x.fault(t, false), -1);
            Check.due("fault(" + t + ", true)", x.fault(t, true), -1);
            Check.due("house(" + t + ")", x.house(t), -1);
            Check.due("night(" + t + ")", x.night(t), -1);
        }
        Check.due("fault(1, false), missing", x.fault(1, false), -3);
        Check.due("fault(1, true), missing", x.fault(1, true), -3);
        Check.due("house(1), missing", x.house(1), -3);
        Check.due("night(1), missing", x.night(1), -3);
        Check.due("findings(1)", x.findings(1), 4);
    }

    private static void housesAnew() {
        CreakBoards x = Make.night("r3 m9 D0-2 d2-1 w2:12 w1:*", "n1@9 s0@8");
        int[] counts = {3, 2, 2, 9, 2, 0, 0, 2};
        for (int what = 0; what < 8; what++) Check.due("count(" + what + ")", x.count(what), counts[what]);
        long digest = x.digest();
        Make.text(x, 3, "r2 d0-1 m31");
        Check.yes("text 3 came", x.digest() != digest);
        digest = x.digest();
        Check.due("house(3) with a fault", x.house(3), -4);
        Check.due("refused changes nothing", x.digest(), digest);
        Make.text(x, 3, "r2");
        Check.due("house(3)", x.house(3), 0);
        counts = new int[] {2, 0, 0, 12, 0, 0, 0, 3};
        for (int what = 0; what < 8; what++) Check.due("anew count(" + what + ")", x.count(what), counts[what]);
    }

    private static void manyEvents() {
        CreakBoards x = Make.house("r2 m12 d0-1 w1:*");
        Make.text(x, 1, "n0@1n0@2n0@3n0@4n0@5n0@6n0@7n0@8n0@9n1@1");
        Check.due("ten events", x.night(1), 10);
        Check.due("ten more", x.night(1), 10);
        Check.due("ten more are too many", x.night(1), -2);
        Check.due("all or none", x.count(4), 20);
        Make.text(x, 2, "y0@0 y1/0@12 x0@3-7 n1@0");
        Check.due("four more", x.night(2), 4);
        Check.due("24 in all", x.count(4), 24);
        Make.text(x, 3, "");
        Check.due("none would go", x.night(3), 0);
        Make.text(x, 3, "n0@1");
        Check.due("one is too many", x.night(3), -2);
        Make.text(x, 3, "n0@1 n");
        Check.due("STATE ahead of FULL", x.night(3), -4);
        int[][] told = {{2, 0, 0, 0}, {3, 1, 0, 12}, {5, 0, 7, 3}, {4, 1, 0, 0}};
        for (int e = 20; e < 24; e++) {
            for (int what = 0; what < 4; what++) {
                Check.due("told(" + e + ", " + what + ")", x.told(e, what), 1);
                Check.due("told(" + e + ", " + what + ") asked()", x.asked(), told[e - 20][what]);
            }
        }
    }

    public static void main(String[] args) {
        houses();
        doors();
        textsAnew();
        minutes();
        walkers();
        nights();
        nightOfNoHouse();
        refused();
        housesAnew();
        manyEvents();
        Check.end("ReadingTest");
    }
}
