/** Boundary cases of the HOUSE as a TEXT: its FAULTS (promise 10) and what comes of it (promise 11). */
public final class EdgeHouseTest {
    private static final int END = -9;

    /** The FAULT of a text; of one without, house() makes a HOUSE, else it is STATE. */
    private static void dueFault(String text, int fault) {
        CreakBoards x = new CreakBoards();
        Make.text(x, 1, text);
        dueFaultOf(x, "'" + text + "'", fault);
    }

    private static void dueFaultOf(CreakBoards x, String what, int fault) {
        if (fault == END) Edge.refused(x, "fault of " + what, Edge.NONE, () -> x.fault(1, false));
        else Edge.plain(x, "fault of " + what, fault, () -> x.fault(1, false));
        if (fault != END) Edge.refused(x, "house of " + what, Edge.STATE, () -> x.house(1));
        else Edge.yes("house of " + what + " comes", x.house(1) >= 0);
    }

    private static CreakBoards dueHouse(String text, int... counts) {
        CreakBoards x = new CreakBoards();
        Make.text(x, 0, text);
        Edge.due("fault of '" + text + "'", x.fault(0, false), END);
        Edge.plain(x, "house of '" + text + "'", counts[1], () -> x.house(0));
        for (int what = 0; what < 4; what++) Edge.due("count(" + what + ") of '" + text + "'", x.count(what), counts[what]);
        return x;
    }

    private static void dueDoor(CreakBoards x, int d, int lesser, int greater, int board) {
        Edge.tells(x, "door(" + d + ", 0)", x.door(d, 0), 1, lesser);
        Edge.tells(x, "door(" + d + ", 1)", x.door(d, 1), 1, greater);
        Edge.tells(x, "door(" + d + ", 2)", x.door(d, 2), 1, board);
    }

    private static void dueWalker(CreakBoards x, int w, int pace, int begin) {
        Edge.tells(x, "walker(" + w + ", 0)", x.walker(w, 0), 1, pace);
        Edge.tells(x, "walker(" + w + ", 1)", x.walker(w, 1), 1, begin);
    }

    /** Each byte there is at a place of a text: the FAULT is there, but for those that go on to the next place. */
    private static void dueEachByte(String text, int i, String goOn) {
        CreakBoards x = new CreakBoards();
        Make.text(x, 1, text);
        for (int v = -128; v < 128; v++) {
            x.put(1, i, v);
            int fault = x.fault(1, false);
            String what = "fault with byte " + v + " at " + i + " of '" + text + "'";
            if (v > 0 && goOn.indexOf((char) v) >= 0) Edge.yes(what + " is behind it", fault == END || fault > i);
            else Edge.due(what, fault, i);
        }
    }

    private static String blanks(int n) {
        return " ".repeat(n);
    }

    private static void blanksAround() {
        Edge.of("HOUSE: blanks ahead, between, behind as many as wanted");
        dueHouse("r2d0-1D1-0m5w1:0w2:*", 2, 2, 2, 5);
        dueHouse(" r2 d0-1 D1-0 m5 w1:0 w2:* ", 2, 2, 2, 5);
        dueHouse("   r2   d0-1     D1-0  m5   w1:0  w2:*   ", 2, 2, 2, 5);
        dueHouse(blanks(78) + "r2", 2, 0, 0, 12);
        dueHouse("r2" + blanks(78), 2, 0, 0, 12);
        dueHouse("r2" + blanks(75) + "m30", 2, 0, 0, 30);
        Edge.of("HOUSE: none within items (the FAULT is at the blank, or at the figure that is no item)");
        dueFault("r 2", 1);
        dueFault("r2 d 0-1", 4);
        dueFault("r2 d0 -1", 5);
        dueFault("r2 d0- 1", 6);
        dueFault("r2 D 0-1", 4);
        dueFault("r2 D0 -1", 5);
        dueFault("r2 D0- 1", 6);
        dueFault("r2 m 1", 4);
        dueFault("r2 m1 2", 6);
        dueFault("r2 w 1:0", 4);
        dueFault("r2 w1 :0", 5);
        dueFault("r2 w1: 0", 6);
        dueFault("r2 w1: *", 6);
        dueFault("r2 w1:0 1", 8);
        Edge.of("HOUSE: no other byte is a blank");
        dueEachByte("?r2", 0, " r");
        dueEachByte("r2?", 2, " dDmw");
        dueEachByte("r2 m5?d0-1", 5, " dDmw0123456789");
        dueEachByte("r2 w1:*?m5", 7, " mdDw");
        dueEachByte("r2d0-1?m5", 6, " mdDw");
    }

    private static void firstItem() {
        Edge.of("HOUSE: the first item is r");
        dueEachByte("?2", 0, " r");
        for (String item : new String[] {"d0-1", "D0-1", "m5", "w1:*"}) dueFault(item + "r2", 0);
        for (String item : new String[] {"d0-1", "D0-1", "m5", "w1:*"}) dueFault("  " + item + " r2", 2);
        Edge.of("HOUSE: r is told once");
        dueFault("r2 r2", 3);
        dueFault("r2r2", 2);
        dueFault("r2 m5 r3", 6);
        Edge.of("HOUSE: how many ROOMS, one figure 1 .. 6");
        dueEachByte("r?", 1, "123456");
        for (int rooms = 1; rooms <= 6; rooms++) dueHouse("r" + rooms, rooms, 0, 0, 12);
        dueFault("r0", 1);
        dueFault("r7", 1);
        dueFault("r9", 1);
        dueFault("r11", 2);
        dueFault("r66", 2);
        dueFault("r06", 1);
    }

    private static void endsTooEarly() {
        Edge.of("HOUSE FAULT: the TEXT's size, if its end comes too early");
        dueFault("", 0);
        dueFault(" ", 1);
        dueFault(blanks(80), 80);
        dueFault("r", 1);
        dueFault(blanks(79) + "r", 80);
        for (String item : new String[] {"d0-1", "D1-0", "w1:0", "w2:*"}) {
            for (int n = 1; n < item.length(); n++) {
                dueFault("r2" + item.substring(0, n), 2 + n);
                dueFault("r2 m3" + blanks(75 - n) + item.substring(0, n), 80);
            }
        }
        dueFault("r2m", 3);
        dueFault("r2" + blanks(77) + "m", 80);
        Edge.of("HOUSE FAULT: what stood in the TEXT ahead is not looked at");
        CreakBoards x = new CreakBoards();
        String whole = "r2d0-1w1:01m12";
        for (int n = whole.length(); n >= 0; n--) {
            Make.text(x, 2, whole);
            Make.text(x, 2, whole.substring(0, n));
            boolean ends = n == 2 || n == 6 || n == 10 || n == 11 || n >= 13;
            Edge.due("fault of '" + whole.substring(0, n) + "' behind a longer one", x.fault(2, false), ends ? END : n);
        }
    }

    private static void doors() {
        Edge.of("HOUSE: d a - b a DOOR without a BOARD, D one with a BOARD, numbered as they come");
        CreakBoards x = dueHouse("r6 D0-5 d5-0 d2-3 D3-2", 6, 4, 0, 12);
        dueDoor(x, 0, 0, 5, 1);
        dueDoor(x, 1, 0, 5, 0);
        dueDoor(x, 2, 2, 3, 0);
        dueDoor(x, 3, 2, 3, 1);
        Edge.of("HOUSE: a, b are ROOMS that there are, one figure each");
        for (int rooms = 2; rooms <= 6; rooms++) {
            String figures = "012345".substring(0, rooms);
            dueEachByte("r" + rooms + "d?-1", 3, figures);
            dueEachByte("r" + rooms + "D?-1", 3, figures);
            dueEachByte("r" + rooms + "d0-?", 5, figures.substring(1));
            dueEachByte("r" + rooms + "D0-?", 5, figures.substring(1));
        }
        dueFault("r6 d0-10", 7);
        dueFault("r6 d00-1", 5);
        Edge.of("HOUSE: between a and b stands - (45)");
        dueEachByte("r2d0?1", 4, "-");
        dueEachByte("r2D1?0", 4, "-");
        Edge.of("HOUSE FAULT: b like a: its place");
        for (int a = 0; a <= 5; a++) {
            dueFault("r6 d" + a + "-" + a, 6);
            dueFault("r6 D" + a + "-" + a, 6);
        }
        Edge.of("HOUSE: of one ROOM there is no DOOR");
        dueFault("r1d0-0", 5);
        dueFault("r1d0-1", 5);
        dueFault("r1d1-0", 3);
    }

    private static void manyDoors() {
        Edge.of("HOUSE: 8 DOORS at most, more than one between the same two");
        String seven = "r6d0-1D0-1d0-1D0-1d0-1D0-1d0-1";
        dueHouse(seven, 6, 7, 0, 12);
        CreakBoards x = dueHouse(seven + "D4-5", 6, 8, 0, 12);
        for (int d = 0; d < 7; d++) dueDoor(x, d, 0, 1, d % 2);
        dueDoor(x, 7, 4, 5, 1);
        Edge.refused(x, "door(8, 0)", Edge.BAD, () -> x.door(8, 0));
        dueHouse(seven + "d4-5 m3 w1:*", 6, 8, 1, 3);
        Edge.of("HOUSE FAULT: a ninth DOOR: its letter");
        String eight = seven + "D4-5";
        dueFault(eight + "d0-1", eight.length());
        dueFault(eight + " D0-1", eight.length() + 1);
        dueFault(eight + "m3  d", eight.length() + 4);
        dueFault(eight + "D?", eight.length());
        dueFault(eight + "d0-0", eight.length());
    }

    private static void lastMinute() {
        Edge.of("HOUSE: m and the LAST minute, one or two figures 1 .. 30; out of these the place behind");
        for (int m = 0; m <= 9; m++) {
            if (m > 0) dueHouse("r1 m" + m, 1, 0, 0, m);
            else dueFault("r1 m0", 5);
            dueFault("r1 m" + m + "x", 5);
        }
        for (int m = 0; m <= 99; m++) {
            String two = "r1 m" + m / 10 + m % 10;
            if (m >= 1 && m <= 30) dueHouse(two, 1, 0, 0, m);
            else dueFault(two, 6);
            if (m < 1 || m > 30) dueFault(two + " d", 6);
        }
        dueFault("r2 m0d0-1", 5);
        dueFault("r2 m0 m5", 5);
        dueFault("r2 m31m5", 6);
        Edge.of("HOUSE: two figures are all (a third is no item)");
        dueFault("r1 m123", 6);
        dueFault("r1 m030", 6);
        dueFault("r1 m300", 6);
        Edge.of("HOUSE: behind m stands a figure");
        dueEachByte("r1m?", 3, "0123456789");
        dueFault("r1 m-1", 4);
        Edge.of("HOUSE: the last told counts");
        dueHouse("r1m5m30m7", 1, 0, 0, 7);
        dueHouse("r1m30m1", 1, 0, 0, 1);
        dueHouse("r1m1m30", 1, 0, 0, 30);
        Edge.of("HOUSE: 12, if not told");
        dueHouse("r1", 1, 0, 0, 12);
        CreakBoards x = dueHouse("r3m30d0-1w1:*", 3, 1, 1, 30);
        Make.text(x, 1, "r3");
        x.house(1);
        Edge.due("count(3) of the next HOUSE", x.count(3), 12);
    }

    private static void walkers() {
        Edge.of("HOUSE: w p : and * or figures of ROOMS; numbered as they come");
        CreakBoards x = dueHouse("r6 w2:5 w1:* w2:04", 6, 0, 3, 12);
        dueWalker(x, 0, 2, 32);
        dueWalker(x, 1, 1, 63);
        dueWalker(x, 2, 2, 17);
        Edge.of("HOUSE: PACE 1, 2; one figure");
        dueEachByte("r2w?:*", 3, "12");
        dueFault("r2 w0:*", 4);
        dueFault("r2 w3:*", 4);
        dueFault("r2 w11:*", 5);
        Edge.of("HOUSE: behind the PACE stands : (58)");
        dueEachByte("r2w1?0", 4, ":");
        Edge.of("HOUSE: behind : stands * (42) or a figure of a ROOM");
        for (int rooms = 1; rooms <= 6; rooms++) dueEachByte("r" + rooms + "w1:?", 5, "*" + "012345".substring(0, rooms));
        Edge.of("HOUSE: * is any ROOM");
        for (int rooms = 1; rooms <= 6; rooms++) dueWalker(dueHouse("r" + rooms + "w1:*", rooms, 0, 1, 12), 0, 1, (1 << rooms) - 1);
        dueFault("r6 w1:*0", 7);
        dueFault("r6 w1:**", 7);
        dueFault("r6 w1:0*", 7);
        Edge.of("HOUSE: one of these: each row of figures that rises");
        for (int begin = 1; begin < 64; begin++) {
            StringBuilder figures = new StringBuilder();
            for (int r = 0; r < 6; r++) if ((begin >> r & 1) != 0) figures.append(r);
            dueWalker(dueHouse("r6w2:" + figures, 6, 0, 1, 12), 0, 2, begin);
        }
        Edge.of("HOUSE FAULT: a figure that is no ROOM: its place");
        dueFault("r1 w1:1", 6);
        dueFault("r1 w1:01", 7);
        dueFault("r3 w1:3", 6);
        dueFault("r3 w1:013", 8);
        dueFault("r6 w1:6", 6);
        dueFault("r6 w1:0123456", 12);
        dueFault("r6 w1:9", 6);
        Edge.of("HOUSE FAULT: a figure that is not above the one ahead: its place");
        dueFault("r6 w1:00", 7);
        dueFault("r6 w1:10", 7);
        dueFault("r6 w1:0554", 8);
        dueFault("r6 w1:0132", 9);
        dueFault("r6 w1:0123455", 12);
        dueFault("r6 w1:5w2:10", 11);
    }

    private static void manyWalkers() {
        Edge.of("HOUSE: 3 WALKERS at most");
        dueHouse("r2w1:0", 2, 0, 1, 12);
        dueHouse("r2w1:0w1:0", 2, 0, 2, 12);
        CreakBoards three = dueHouse("r2w1:0w1:0w2:1", 2, 0, 3, 12);
        dueWalker(three, 2, 2, 2);
        Edge.refused(three, "walker(3, 0)", Edge.BAD, () -> three.walker(3, 0));
        dueHouse("r2w1:0w1:0w2:1 m3 d0-1", 2, 1, 3, 3);
        Edge.of("HOUSE FAULT: a fourth WALKER: its letter");
        dueFault("r2w1:0w1:0w2:1w1:0", 14);
        dueFault("r2w1:0w1:0w2:1 w", 15);
        dueFault("r2w1:0w1:0w2:1m3 w9", 17);
        Edge.of("HOUSE: any order of items behind the first");
        CreakBoards x = dueHouse("r3 w1:2 m7 d0-1 w2:* D2-1", 3, 2, 2, 7);
        dueWalker(x, 1, 2, 7);
        dueDoor(x, 1, 1, 2, 1);
        Edge.of("HOUSE: the longest TEXT, all full");
        String full = "r6d0-1D1-2d2-3D3-4d4-5D0-5d1-4D2-5m30w1:012345w2:*w1:0123";
        x = dueHouse(full + blanks(80 - full.length()), 6, 8, 3, 30);
        dueWalker(x, 2, 1, 15);
        dueFault(full + blanks(79 - full.length()) + "d", 79);
    }

    private static void faultCall() {
        Edge.of("10 BAD: t that is no TEXT (0 .. 3)");
        CreakBoards x = new CreakBoards();
        for (int t : Edge.beyond(4)) Edge.refused(x, "fault(" + t + ", false)", Edge.BAD, () -> x.fault(t, false));
        Edge.of("10 NOTHING: a TEXT that is missing");
        for (int t = 0; t <= 3; t++) {
            int text = t;
            Edge.found(x, "fault(" + t + ", false)", Edge.NOTHING, () -> x.fault(text, false));
        }
        Edge.of("10: each TEXT, and no HOUSE comes of it");
        for (int t = 0; t <= 3; t++) {
            int text = t;
            Make.text(x, t, "r2d0-1w1:*m5");
            Edge.refused(x, "fault(" + t + ", false)", Edge.NONE, () -> x.fault(text, false));
            Edge.due("count(0)", x.count(0), 1);
            Edge.due("count(1)", x.count(1), 0);
        }
        Edge.of("10: of a HOUSE, or (night) of a NIGHT");
        Edge.due("fault(0, true) of a HOUSE", x.fault(0, true), 0);
        Make.text(x, 0, "n0@0");
        Edge.due("fault(0, false) of a NIGHT", x.fault(0, false), 0);
        Edge.due("fault(0, true) of a NIGHT", x.fault(0, true), END);
    }

    private static void houseCall() {
        Edge.of("11: how many DOORS, by each TEXT");
        for (int t = 0; t <= 3; t++) {
            CreakBoards x = new CreakBoards();
            Make.text(x, t, "r2" + "d0-1".repeat(2 * t));
            int text = t;
            Edge.plain(x, "house(" + t + ")", 2 * t, () -> x.house(text));
        }
        for (int doors = 0; doors <= 8; doors++) dueHouse("r2" + "D0-1".repeat(doors), 2, doors, 0, 12);
        Edge.of("11: anew; EVENTS go; ROWS, TEXTS stay");
        CreakBoards x = Make.night("r6 m30 D0-1D1-2d2-3D4-5 w2:5w1:*w1:012", "s0@29 y5@30 x3@0-29");
        x.row(0, 2);
        Make.text(x, 2, "r2 d0-1 w1:1");
        Edge.due("house(2)", x.house(2), 1);
        int[] counts = {2, 1, 1, 12, 0, 0, 1, 3};
        for (int what = 0; what < 8; what++) Edge.due("count(" + what + ")", x.count(what), counts[what]);
        dueDoor(x, 0, 0, 1, 0);
        dueWalker(x, 0, 1, 2);
        Edge.refused(x, "event(1, 0, 0, 0): the BOARD went", Edge.BAD, () -> x.event(1, 0, 0, 0));
        Edge.refused(x, "told(0, 0): the EVENTS went", Edge.BAD, () -> x.told(0, 0));
        Edge.due("could()", x.could(), 1);
        Edge.of("11: the same HOUSE again: EVENTS go");
        x.event(4, 0, 0, 0);
        Edge.due("house(2) again", x.house(2), 1);
        Edge.due("count(4)", x.count(4), 0);
        Edge.of("11: a HOUSE stands, whatever its TEXT becomes");
        x.put(2, 1, '6');
        Edge.due("count(0) behind put()", x.count(0), 2);
        x.text(2, 0);
        Edge.due("count(0) behind text()", x.count(0), 2);
        Edge.of("11 STATE: a FAULT; the HOUSE and its EVENTS stay");
        x.event(4, 0, 0, 3);
        x.event(4, 1, 0, 3);
        for (String wrong : new String[] {"", "r0", "r3 d0-0", "r3 m31", "r3 w1:", "r3 d0-1d1-2 q"}) {
            Make.text(x, 3, wrong);
            Edge.refused(x, "house(3) of '" + wrong + "'", Edge.STATE, () -> x.house(3));
            Edge.tells(x, "could(): the first HOUSE's", x.could(), 0, 3);
        }
        Edge.of("11: STATE behind NOTHING, BAD ahead of NOTHING");
        CreakBoards y = new CreakBoards();
        for (int t = 0; t <= 3; t++) {
            int text = t;
            Edge.found(y, "house(" + t + ")", Edge.NOTHING, () -> y.house(text));
        }
        for (int t : Edge.beyond(4)) Edge.refused(y, "house(" + t + ")", Edge.BAD, () -> y.house(t));
    }

    private static void housesBehindHouses() {
        Edge.of("11: of the HOUSES ahead nothing is left, nor of the TEXTS that fault() read");
        CreakBoards x = new CreakBoards();
        String[] houses = {"r2D0-1D0-1m5w2:1w2:1", "r2d0-1d0-1", "r2D0-1D0-1D0-1m7w2:*", "r2d0-1d0-1d0-1w1:0"};
        int[][] dues = {{2, 1, 2, 5}, {2, 0, 0, 12}, {3, 1, 1, 7}, {3, 0, 1, 12}};
        for (int i = 0; i < 12; i++) {
            int[] due = dues[i % 4];
            Make.text(x, 3, houses[(i + 2) % 4]);
            x.fault(3, false);
            Make.text(x, 3, "r6D0-1D1-2m29w2:*w1:012 d");
            x.fault(3, false);
            Make.text(x, 2, houses[i % 4]);
            Edge.due("house '" + houses[i % 4] + "'", x.house(2), due[0]);
            for (int d = 0; d < due[0]; d++) dueDoor(x, d, 0, 1, due[1]);
            Edge.due("WALKERS", x.count(2), due[2]);
            Edge.due("LAST", x.count(3), due[3]);
        }
    }

    public static void main(String[] args) {
        blanksAround();
        firstItem();
        endsTooEarly();
        doors();
        manyDoors();
        lastMinute();
        walkers();
        manyWalkers();
        faultCall();
        houseCall();
        housesBehindHouses();
        Edge.end("EdgeHouseTest");
    }
}
