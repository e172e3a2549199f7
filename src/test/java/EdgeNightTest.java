/** Boundary cases of the NIGHT as a TEXT: its FAULTS (promise 10) and the EVENTS that come of it (promise 12). */
public final class EdgeNightTest {
    private static final int END = -9;
    private static final String HOUSE = "r3 m12 D0-1 d1-2 w1:0 w2:*";
    private static final String LARGEST = "r6m30d0-1D1-2d2-3d3-4d4-5d0-5d1-4D2-5w1:*w1:*w1:*";

    private static void dueFaultIn(String house, String night, int fault) {
        CreakBoards x = house.isEmpty() ? new CreakBoards() : Make.house(house);
        Make.text(x, 3, night);
        String what = "'" + night + "'" + (house.equals(HOUSE) ? "" : " in '" + house + "'");
        if (fault == END) {
            Edge.refused(x, "fault of " + what, Edge.NONE, () -> x.fault(3, true));
            int came = x.night(3);
            Edge.yes("night of " + what + " comes", came >= 0 && came == x.count(4));
        } else {
            Edge.plain(x, "fault of " + what, fault, () -> x.fault(3, true));
            Edge.refused(x, "night of " + what, Edge.STATE, () -> x.night(3));
        }
    }

    private static void dueFault(String night, int fault) {
        dueFaultIn(HOUSE, night, fault);
    }

    private static void dueEvents(String house, String night, int[]... events) {
        CreakBoards x = house.isEmpty() ? new CreakBoards() : Make.house(house);
        Make.text(x, 2, night);
        Edge.plain(x, "night of '" + night + "'", events.length, () -> x.night(2));
        Edge.due("count(4) behind '" + night + "'", x.count(4), events.length);
        for (int e = 0; e < events.length; e++) dueTold(x, e, events[e]);
    }

    private static void dueTold(CreakBoards x, int e, int[] event) {
        for (int what = 0; what < 4; what++) Edge.tells(x, "told(" + e + ", " + what + ")", x.told(e, what), 1, event[what]);
    }

    /** Each byte there is at a place of a night: the FAULT is there, but for those that go on to the next place. */
    private static void dueEachByte(String house, String night, int i, String goOn) {
        CreakBoards x = Make.house(house);
        Make.text(x, 1, night);
        for (int v = -128; v < 128; v++) {
            x.put(1, i, v);
            int fault = x.fault(1, true);
            String what = "fault with byte " + v + " at " + i + " of '" + night + "' in '" + house + "'";
            if (v > 0 && goOn.indexOf((char) v) >= 0) Edge.yes(what + " is behind it", fault == END || fault > i);
            else Edge.due(what, fault, i);
        }
    }

    private static void nothing() {
        Edge.of("NIGHT: of no item there is no FAULT, and no EVENT comes");
        dueEvents(HOUSE, "");
        dueEvents(HOUSE, " ");
        dueEvents(HOUSE, " ".repeat(80));
        dueEvents("", "");
        Edge.of("NIGHT: blanks likewise");
        int[][] five = {{1, 0, 0, 0}, {2, 2, 0, 12}, {3, 0, 1, 3}, {4, 1, 0, 4}, {5, 1, 6, 5}};
        dueEvents(HOUSE, "s0@0y2@12y0/1@3n1@4x1@5-6", five);
        dueEvents(HOUSE, "  s0@0 y2@12   y0/1@3 n1@4  x1@5-6   ", five);
        dueEvents(HOUSE, " ".repeat(76) + "s0@0", new int[] {1, 0, 0, 0});
        dueEvents(HOUSE, "s0@0" + " ".repeat(76), new int[] {1, 0, 0, 0});
        Edge.of("NIGHT: no blanks within items");
        String[] items = {"s0@1", "y2@1", "n1@1", "y0/1@1", "x1@1-1"};
        for (String item : items) {
            for (int i = 1; i < item.length(); i++) {
                boolean minute = item.charAt(0) == 'x' && i == 4;
                dueFault(item.substring(0, i) + " " + item.substring(i), minute ? 4 : i);
            }
        }
        dueFault("s0@1 1", 5);
        dueFault("y0/1@1 2", 7);
        dueFault("x1@1-1 1", 7);
        Edge.of("NIGHT: an item begins with s, y, n, x");
        dueEachByte(HOUSE, "?0@0", 0, " synx");
        dueEachByte(HOUSE, "?0@0-1", 0, " synx");
        dueEachByte(HOUSE, "s0@0?0@0", 4, " synx0123456789");
        Edge.of("NIGHT FAULT: the TEXT's size, if its end comes too early");
        for (String item : items) {
            for (int n = 1; n < item.length(); n++) {
                dueFault(item.substring(0, n), n);
                dueFault(" ".repeat(80 - n) + item.substring(0, n), 80);
            }
        }
    }

    private static void sound() {
        Edge.of("NIGHT: s d @ t a SOUND, of a DOOR with a BOARD");
        dueEvents("r2m5D0-1d0-1D0-1", "s0@4 s2@0", new int[] {1, 0, 0, 4}, new int[] {1, 2, 0, 0});
        dueEachByte("r2m5D0-1d0-1D0-1", "s?@0", 1, "02");
        dueEachByte(LARGEST, "s?@0", 1, "17");
        dueEachByte("r2d0-1", "s?@0", 1, "");
        dueFaultIn("r2", "s0@0", 1);
        dueFaultIn("", "s0@0", 1);
        dueEachByte(HOUSE, "s0?0", 2, "@");
        Edge.of("NIGHT: t of a SOUND 0 to LAST less 1; out of these the place behind");
        dueFault("s0@0", END);
        dueFault("s0@11", END);
        dueFault("s0@12", 5);
        dueFault("s0@13", 5);
        dueFault("s0@99", 5);
        dueFault("s0@12 s", 5);
        dueFault("s0@12@", 5);
        dueFaultIn("r2m1D0-1", "s0@0", END);
        dueFaultIn("r2m1D0-1", "s0@1", 4);
        dueFaultIn("r2m1D0-1", "s0@01", 5);
        dueFaultIn(LARGEST, "s7@29", END);
        dueFaultIn(LARGEST, "s7@30", 5);
        dueEachByte(HOUSE, "s0@?", 3, "0123456789");
    }

    private static void seen() {
        Edge.of("NIGHT: y r @ t SEEN, n r @ t BARE, of a ROOM");
        dueEvents("r2m5", "y1@5 n0@0", new int[] {2, 1, 0, 5}, new int[] {4, 0, 0, 0});
        for (int rooms = 1; rooms <= 6; rooms++) {
            dueEachByte("r" + rooms, "y?@0", 1, "012345".substring(0, rooms));
            dueEachByte("r" + rooms, "n?@0", 1, "012345".substring(0, rooms));
            dueEachByte("r" + rooms + "w1:*", "y?/0@0", 1, "012345".substring(0, rooms));
        }
        dueEvents("", "y0@12n0@0", new int[] {2, 0, 0, 12}, new int[] {4, 0, 0, 0});
        dueFaultIn("", "y1@0", 1);
        dueFaultIn("", "n1@0", 1);
        Edge.of("NIGHT: behind the ROOM stands @, of a SEEN one / and a WALKER, too");
        dueEachByte(HOUSE, "y2?0", 2, "@/");
        dueEachByte(HOUSE, "n2?0", 2, "@");
        Edge.of("NIGHT: y r / w @ t THIS, w a WALKER (one figure)");
        dueEvents("r2m5w1:*w2:0", "y1/0@5 y0/1@0", new int[] {3, 1, 0, 5}, new int[] {3, 0, 1, 0});
        dueEachByte("r2w1:*", "y0/?@0", 3, "0");
        dueEachByte("r2w1:*w1:*", "y0/?@0", 3, "01");
        dueEachByte("r2w1:*w1:*w1:*", "y0/?@0", 3, "012");
        dueEachByte("r2", "y0/?@0", 3, "");
        dueFaultIn("", "y0/0@0", 3);
        dueEachByte(HOUSE, "y0/1?0", 4, "@");
        dueFault("y0/01@0", 4);
        Edge.of("NIGHT: t of SEEN, THIS, BARE 0 to LAST; out of these the place behind");
        for (String item : new String[] {"y2@", "n2@", "y2/1@"}) {
            dueFault(item + "0", END);
            dueFault(item + "12", END);
            dueFault(item + "13", item.length() + 2);
            dueFault(item + "99", item.length() + 2);
            dueFault(item + "13 ?", item.length() + 2);
            dueFault(item + "121", item.length() + 2);
            String first = item.replace('2', '0').replace("/1", "/0");
            dueFaultIn("r1m1w1:0", first + "0", END);
            dueFaultIn("r1m1w1:0", first + "1", END);
            dueFaultIn("r1m1w1:0", first + "2", item.length() + 1);
            dueFaultIn(LARGEST, item + "30", END);
            dueFaultIn(LARGEST, item + "31", item.length() + 2);
            dueEachByte(HOUSE, item + "?", item.length(), "0123456789");
        }
    }

    private static void shut() {
        Edge.of("NIGHT: x d @ t - u SHUT, of any DOOR");
        dueEvents("r2m5D0-1d0-1", "x0@0-4 x1@3-3", new int[] {5, 0, 4, 0}, new int[] {5, 1, 3, 3});
        dueEachByte("r2D0-1d0-1D0-1", "x?@0-0", 1, "012");
        dueEachByte(LARGEST, "x?@0-0", 1, "01234567");
        dueEachByte("r2", "x?@0-0", 1, "");
        dueFaultIn("", "x0@0-0", 1);
        dueEachByte(HOUSE, "x0?0-0", 2, "@");
        dueEachByte(HOUSE, "x0@?-9", 3, "0123456789");
        dueEachByte(HOUSE, "x0@0?9", 4, "-0123456789");
        dueEachByte(HOUSE, "x0@0-?", 5, "0123456789");
        Edge.of("NIGHT: t of SHUT 0 to LAST less 1; out of these the place behind");
        dueFault("x0@0-0", END);
        dueFault("x0@11-11", END);
        dueFault("x0@12-12", 5);
        dueFault("x0@12", 5);
        dueFault("x0@99-1", 5);
        dueFaultIn("r2m1d0-1", "x0@0-0", END);
        dueFaultIn("r2m1d0-1", "x0@1-1", 4);
        dueFaultIn(LARGEST, "x7@29-29", END);
        dueFaultIn(LARGEST, "x7@30-30", 5);
        Edge.of("NIGHT: u of SHUT t to LAST less 1; out of these the place behind");
        dueFault("x0@5-5", END);
        dueFault("x0@5-6", END);
        dueFault("x0@5-4", 6);
        dueFault("x0@5-0", 6);
        dueFault("x0@5-11", END);
        dueFault("x0@5-12", 7);
        dueFault("x0@10-9", 7);
        dueFault("x0@10-10", END);
        dueFault("x0@0-12 x", 7);
        dueFault("x0@0-111", 7);
        dueFaultIn("r2m1d0-1", "x0@0-1", 6);
        dueFaultIn(LARGEST, "x0@0-29", END);
        dueFaultIn(LARGEST, "x0@0-30", 7);
    }

    private static void minutes() {
        Edge.of("NIGHT: minutes are one or two figures");
        for (int t = 0; t <= 30; t++) {
            String two = "" + t / 10 + t % 10;
            dueEvents(LARGEST, "y0@" + t, new int[] {2, 0, 0, t});
            dueEvents(LARGEST, "y0/2@" + two, new int[] {3, 0, 2, t});
            dueEvents(LARGEST, "n0@" + two + "n1@" + t, new int[] {4, 0, 0, t}, new int[] {4, 1, 0, t});
            if (t < 30) dueEvents(LARGEST, "s1@" + two + "x0@" + two + "-29", new int[] {1, 1, 0, t}, new int[] {5, 0, 29, t});
        }
        dueFaultIn(LARGEST, "y0@300", 5);
        dueFaultIn(LARGEST, "y0@012", 5);
        dueFaultIn(LARGEST, "x0@000-1", 5);
        Edge.of("NIGHT FAULT: the first one, whatever is behind it");
        dueFault("s0@0 y0@0 y3@0 q", 11);
        dueFault("s1@0 s0@12", 1);
        Edge.of("NIGHT FAULT: by the HOUSE that there is");
        CreakBoards x = new CreakBoards();
        Make.text(x, 0, "r2m20D0-1w1:*");
        Make.text(x, 1, "s0@19y1/0@20");
        Edge.due("fault(1, true) without a HOUSE", x.fault(1, true), 1);
        x.house(0);
        Edge.due("fault(1, true) in a HOUSE", x.fault(1, true), END);
        Make.text(x, 0, "r2m19D0-1w1:*");
        Edge.due("fault(1, true): the HOUSE stands", x.fault(1, true), END);
        x.house(0);
        Edge.due("fault(1, true) in the next HOUSE", x.fault(1, true), 5);
        Edge.of("NIGHT FAULT: fault() of the TEXT of another HOUSE changes nothing of it");
        Make.text(x, 2, "r1");
        x.fault(2, false);
        Edge.due("fault(1, true)", x.fault(1, true), 5);
        Edge.due("event(1, 0, 0, 18)", x.event(1, 0, 0, 18), 0);
    }

    private static void faultCall() {
        Edge.of("10 BAD: t that is no TEXT (0 .. 3); NOTHING: one that is missing");
        CreakBoards x = new CreakBoards();
        for (int t : Edge.beyond(4)) Edge.refused(x, "fault(" + t + ", true)", Edge.BAD, () -> x.fault(t, true));
        for (int t = 0; t <= 3; t++) {
            int text = t;
            Edge.found(x, "fault(" + t + ", true)", Edge.NOTHING, () -> x.fault(text, true));
        }
        Edge.of("10: of all TEXTS, 24 EVENTS or not, and no EVENT comes");
        for (int t = 0; t <= 3; t++) {
            int text = t;
            Make.text(x, t, "n0@1".repeat(20));
            Edge.refused(x, "fault(" + t + ", true)", Edge.NONE, () -> x.fault(text, true));
        }
        for (int e = 0; e < 24; e++) x.event(4, 0, 0, 0);
        Edge.refused(x, "fault(0, true) with 24 EVENTS", Edge.NONE, () -> x.fault(0, true));
    }

    private static void nightCall() {
        Edge.of("12: EVENTS come to those that there are");
        CreakBoards x = Make.house(HOUSE);
        x.event(2, 1, 0, 7);
        Make.text(x, 1, "s0@3 n0@3");
        Edge.plain(x, "night(1)", 2, () -> x.night(1));
        Edge.plain(x, "night(1) again", 2, () -> x.night(1));
        int[][] five = {{2, 1, 0, 7}, {1, 0, 0, 3}, {4, 0, 0, 3}, {1, 0, 0, 3}, {4, 0, 0, 3}};
        for (int e = 0; e < 5; e++) dueTold(x, e, five[e]);
        Edge.due("count(4)", x.count(4), 5);
        Edge.of("12: none, if the TEXT has none");
        Make.text(x, 2, "");
        Edge.plain(x, "night(2)", 0, () -> x.night(2));
        Edge.due("count(4) stays", x.count(4), 5);
        Edge.of("12: a NIGHT of the longest TEXT");
        Make.text(x, 3, "n0@1".repeat(20));
        x.back(4);
        Edge.plain(x, "night(3): 24 in all", 20, () -> x.night(3));
        dueTold(x, 23, new int[] {4, 0, 0, 1});
        Edge.of("12 FULL: not all would go (24 at most); all or none");
        Make.text(x, 0, "n0@1");
        Edge.refused(x, "night(0): one is too many", Edge.FULL, () -> x.night(0));
        x.back(23);
        Edge.refused(x, "night(1): two are one too many", Edge.FULL, () -> x.night(1));
        Edge.refused(x, "night(3): twenty are too many", Edge.FULL, () -> x.night(3));
        Edge.plain(x, "night(0): one goes", 1, () -> x.night(0));
        Edge.plain(x, "night(2): none go even now", 0, () -> x.night(2));
        x.back(5);
        Edge.refused(x, "night(3): 25 in all", Edge.FULL, () -> x.night(3));
        x.back(4);
        Edge.plain(x, "night(3): 24 in all", 20, () -> x.night(3));
        Edge.of("12: STATE (a FAULT) ahead of FULL; none come");
        for (String wrong : new String[] {"q", "n0@1n0@1n", "n0@1n0@13", "s1@0"}) {
            Make.text(x, 0, wrong);
            Edge.refused(x, "night(0) of '" + wrong + "' with 24 EVENTS", Edge.STATE, () -> x.night(0));
        }
        x.back(0);
        for (String wrong : new String[] {"q", "n0@1n0@1n", "n0@1n0@13", "s1@0"}) {
            Make.text(x, 0, wrong);
            Edge.refused(x, "night(0) of '" + wrong + "'", Edge.STATE, () -> x.night(0));
        }
        Edge.of("12: NOTHING; BAD ahead of it");
        CreakBoards y = new CreakBoards();
        for (int e = 0; e < 24; e++) y.event(4, 0, 0, 0);
        for (int t = 0; t <= 3; t++) {
            int text = t;
            Edge.found(y, "night(" + t + ")", Edge.NOTHING, () -> y.night(text));
        }
        for (int t : Edge.beyond(4)) Edge.refused(y, "night(" + t + ")", Edge.BAD, () -> y.night(t));
        Edge.of("12: each TEXT");
        for (int t = 0; t <= 3; t++) {
            CreakBoards z = new CreakBoards();
            Make.text(z, t, "n0@1".repeat(t + 1));
            Edge.due("night(" + t + ")", z.night(t), t + 1);
        }
    }

    public static void main(String[] args) {
        nothing();
        sound();
        seen();
        shut();
        minutes();
        faultCall();
        nightCall();
        Edge.end("EdgeNightTest");
    }
}
