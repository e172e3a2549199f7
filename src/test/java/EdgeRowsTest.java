/** Boundary cases of promises 1 to 9, and of ROWS and TEXTS: which there are, how long, what is in them. */
public final class EdgeRowsTest {
    private static CreakBoards x;

    private static void anew(String sentence) {
        Edge.of(sentence);
        x = new CreakBoards();
    }

    private static void fill(int r, int... values) {
        x.row(r, values.length);
        for (int i = 0; i < values.length; i++) x.lay(r, i, values[i]);
    }

    private static void dueRow(String what, int r, int... values) {
        for (int i = 0; i < values.length; i++) Edge.tells(x, what + ": at(" + r + ", " + i + ")", x.at(r, i), 1, values[i]);
        int size = values.length;
        Edge.found(x, what + ": at(" + r + ", " + size + ")", Edge.BEYOND, () -> x.at(r, size));
    }

    private static void newObject() {
        anew("1: no ROWS");
        Edge.due("count(6)", x.count(6), 0);
        for (int r = 0; r <= 5; r++) {
            int row = r;
            Edge.found(x, "at(" + r + ", 0)", Edge.NOTHING, () -> x.at(row, 0));
        }
        anew("1: no TEXTS");
        Edge.due("count(7)", x.count(7), 0);
        for (int t = 0; t <= 3; t++) {
            int text = t;
            Edge.found(x, "put(" + t + ", 0, 0)", Edge.NOTHING, () -> x.put(text, 0, 0));
        }
        anew("1: no EVENTS");
        Edge.due("count(4)", x.count(4), 0);
        Edge.due("count(5)", x.count(5), 0);
        Edge.refused(x, "told(0, 0)", Edge.BAD, () -> x.told(0, 0));
        Edge.due("back(0)", x.back(0), 0);
        Edge.refused(x, "back(1)", Edge.BAD, () -> x.back(1));
        anew("1: no HOUSE: one ROOM, no DOORS, no WALKERS, LAST 12");
        int[] counts = {1, 0, 0, 12};
        for (int what = 0; what < 4; what++) Edge.due("count(" + what + ")", x.count(what), counts[what]);
        Edge.refused(x, "door(0, 0)", Edge.BAD, () -> x.door(0, 0));
        Edge.refused(x, "walker(0, 0)", Edge.BAD, () -> x.walker(0, 0));
        Edge.tells(x, "empty(12)", x.empty(12), 1, 0);
        Edge.refused(x, "empty(13)", Edge.BAD, () -> x.empty(13));
        Edge.refused(x, "rooms(1, 0)", Edge.BAD, () -> x.rooms(1, 0));
        Edge.due("event(4, 0, 0, 12)", x.event(4, 0, 0, 12), 0);
        Edge.refused(x, "event(4, 0, 0, 13)", Edge.BAD, () -> x.event(4, 0, 0, 13));
        Edge.refused(x, "event(4, 1, 0, 0)", Edge.BAD, () -> x.event(4, 1, 0, 0));
        Edge.refused(x, "event(5, 0, 0, 0)", Edge.BAD, () -> x.event(5, 0, 0, 0));
        anew("1: of two objects each is its own");
        CreakBoards y = new CreakBoards();
        x.row(0, 3);
        x.text(0, 3);
        x.event(4, 0, 0, 0);
        x.at(1, 0);
        for (int what = 4; what < 8; what++) Edge.due("count(" + what + ") of the other", y.count(what), 0);
        Edge.due("finding() of the other", y.finding(), 0);
    }

    private static void row() {
        anew("2: a ROW is there with n ints 0: n (0 .. 40)");
        for (int r = 0; r <= 5; r++) {
            for (int n : new int[] {0, 1, 39, 40}) {
                Edge.plain(x, "row(" + r + ", " + n + ")", n, rowCall(r, n));
                dueRow("row(" + r + ", " + n + ")", r, new int[n]);
            }
            Edge.due("count(6)", x.count(6), r + 1);
        }
        anew("2: anew with ints 0, whatever was there");
        int[] ones = new int[40];
        java.util.Arrays.fill(ones, -1);
        fill(3, ones);
        for (int n : new int[] {2, 40, 0, 40}) {
            Edge.due("row(3, " + n + ")", x.row(3, n), n);
            dueRow("row(3, " + n + ")", 3, new int[n]);
        }
        Edge.due("count(6): still one", x.count(6), 1);
        anew("2 BAD: r that is no ROW (0 .. 5)");
        for (int r : Edge.beyond(6)) Edge.refused(x, "row(" + r + ", 0)", Edge.BAD, rowCall(r, 0));
        anew("2 BAD: also n above 40");
        fill(0, 7);
        for (int n : new int[] {41, 42, 80, 256, Edge.MAX}) {
            Edge.refused(x, "row(0, " + n + ")", Edge.BAD, rowCall(0, n));
            Edge.refused(x, "row(1, " + n + ")", Edge.BAD, rowCall(1, n));
        }
        dueRow("the row stands", 0, 7);
        anew("2 SIZE: below 0");
        fill(0, 7);
        for (int n : new int[] {-1, -40, Edge.MIN}) {
            Edge.found(x, "row(0, " + n + ")", Edge.SIZE, rowCall(0, n));
            Edge.found(x, "row(1, " + n + ")", Edge.SIZE, rowCall(1, n));
        }
        dueRow("the row stands", 0, 7);
        anew("2: BAD ahead of SIZE");
        for (int r : Edge.beyond(6)) Edge.refused(x, "row(" + r + ", -1)", Edge.BAD, rowCall(r, -1));
    }

    private static Edge.Call rowCall(int r, int n) {
        return () -> x.row(r, n);
    }

    private static void lay() {
        anew("3: place i of a ROW is v, what it was by asked(): 1; the first and the last place");
        x.row(5, 40);
        int was = 0;
        for (int v : new int[] {1, -1, Edge.MAX, Edge.MIN, 0, 1000, 256}) {
            Edge.tells(x, "lay(5, 0, " + v + ")", x.lay(5, 0, v), 1, was);
            Edge.tells(x, "lay(5, 39, " + v + ")", x.lay(5, 39, v), 1, was);
            was = v;
        }
        int[] due = new int[40];
        due[0] = 256;
        due[39] = 256;
        dueRow("no other place", 5, due);
        anew("3 BEYOND: a place that there is not");
        fill(0, 5, 6, 7);
        for (int i : new int[] {-1, 3, 4, 39, 40, Edge.MAX, Edge.MIN}) Edge.found(x, "lay(0, " + i + ", 9)", Edge.BEYOND, () -> x.lay(0, i, 9));
        dueRow("the row stands", 0, 5, 6, 7);
        x.row(1, 0);
        Edge.found(x, "lay(1, 0, 9) of a ROW of none", Edge.BEYOND, () -> x.lay(1, 0, 9));
        x.row(2, 40);
        Edge.found(x, "lay(2, 40, 9) of the longest ROW", Edge.BEYOND, () -> x.lay(2, 40, 9));
        anew("3 NOTHING: ahead of BEYOND");
        for (int i : new int[] {-1, 0, 40}) Edge.found(x, "lay(0, " + i + ", 9)", Edge.NOTHING, () -> x.lay(0, i, 9));
        anew("3 BAD: ahead of NOTHING");
        for (int r : Edge.beyond(6)) Edge.refused(x, "lay(" + r + ", -1, 9)", Edge.BAD, () -> x.lay(r, -1, 9));
    }

    private static void at() {
        anew("4: place i of a ROW by asked(): 1; the first and the last place");
        x.row(4, 40);
        x.lay(4, 0, Edge.MIN);
        x.lay(4, 39, Edge.MAX);
        Edge.tells(x, "at(4, 0)", x.at(4, 0), 1, Edge.MIN);
        Edge.tells(x, "at(4, 39)", x.at(4, 39), 1, Edge.MAX);
        anew("4 BEYOND: a place that there is not");
        fill(0, 5, 6, 7);
        for (int i : new int[] {-1, 3, 4, 39, 40, Edge.MAX, Edge.MIN}) Edge.found(x, "at(0, " + i + ")", Edge.BEYOND, () -> x.at(0, i));
        x.row(1, 0);
        Edge.found(x, "at(1, 0) of a ROW of none", Edge.BEYOND, () -> x.at(1, 0));
        x.row(2, 40);
        Edge.found(x, "at(2, 40) of the longest ROW", Edge.BEYOND, () -> x.at(2, 40));
        anew("4 NOTHING: ahead of BEYOND");
        for (int i : new int[] {-1, 0, 40}) Edge.found(x, "at(0, " + i + ")", Edge.NOTHING, () -> x.at(0, i));
        anew("4 BAD: ahead of NOTHING");
        for (int r : Edge.beyond(6)) Edge.refused(x, "at(" + r + ", -1)", Edge.BAD, () -> x.at(r, -1));
    }

    private static void tear() {
        anew("5: a ROW is missing: 1");
        for (int r = 0; r <= 5; r++) x.row(r, r == 0 ? 0 : 40);
        for (int r = 0; r <= 5; r++) {
            int row = r;
            Edge.plain(x, "tear(" + r + ")", 1, () -> x.tear(row));
            Edge.due("count(6)", x.count(6), 5 - r);
            Edge.found(x, "at(" + r + ", 0)", Edge.NOTHING, () -> x.at(row, 0));
        }
        anew("5: a ROW made behind it has ints 0");
        fill(2, 3, 4);
        x.tear(2);
        x.row(2, 2);
        dueRow("made anew", 2, 0, 0);
        anew("5 NOTHING: missing at first, and torn already");
        Edge.found(x, "tear(0)", Edge.NOTHING, () -> x.tear(0));
        x.row(0, 0);
        x.tear(0);
        Edge.found(x, "tear(0) again", Edge.NOTHING, () -> x.tear(0));
        anew("5 BAD: ahead of NOTHING");
        for (int r : Edge.beyond(6)) Edge.refused(x, "tear(" + r + ")", Edge.BAD, () -> x.tear(r));
    }

    private static Edge.Call copyCall(int r, int i, int to, int j, int n) {
        return () -> x.copy(r, i, to, j, n);
    }

    private static void copy() {
        anew("6: n places come to those of another ROW: 1");
        fill(0, 1, 2, 3, 4, 5);
        fill(5, 6, 7, 8);
        Edge.plain(x, "copy(0, 2, 5, 0, 3)", 1, copyCall(0, 2, 5, 0, 3));
        dueRow("all places", 5, 3, 4, 5);
        Edge.plain(x, "copy(0, 0, 5, 1, 1)", 1, copyCall(0, 0, 5, 1, 1));
        dueRow("one place", 5, 3, 1, 5);
        dueRow("what was taken stands", 0, 1, 2, 3, 4, 5);
        anew("6: of the longest ROWS all 40");
        int[] rising = new int[40];
        for (int i = 0; i < 40; i++) rising[i] = i + 1;
        fill(1, rising);
        x.row(2, 40);
        Edge.due("copy(1, 0, 2, 0, 40)", x.copy(1, 0, 2, 0, 40), 1);
        dueRow("all 40", 2, rising);
        anew("6: perhaps itself, as if taken ahead");
        fill(0, 1, 2, 3, 4, 5);
        Edge.due("copy(0, 0, 0, 1, 4)", x.copy(0, 0, 0, 1, 4), 1);
        dueRow("up", 0, 1, 1, 2, 3, 4);
        fill(0, 1, 2, 3, 4, 5);
        Edge.due("copy(0, 1, 0, 0, 4)", x.copy(0, 1, 0, 0, 4), 1);
        dueRow("down", 0, 2, 3, 4, 5, 5);
        Edge.due("copy(0, 0, 0, 0, 5)", x.copy(0, 0, 0, 0, 5), 1);
        dueRow("onto itself", 0, 2, 3, 4, 5, 5);
        anew("6: n 0, up to the place behind the last");
        fill(0, 1, 2);
        x.row(1, 0);
        Edge.due("copy(0, 2, 1, 0, 0)", x.copy(0, 2, 1, 0, 0), 1);
        Edge.due("copy(1, 0, 0, 2, 0)", x.copy(1, 0, 0, 2, 0), 1);
        Edge.due("copy(0, 0, 0, 0, 0)", x.copy(0, 0, 0, 0, 0), 1);
        dueRow("nothing came", 0, 1, 2);
        anew("6 BEYOND: also with n 0, if i, j is below 0, or above its size");
        fill(0, 1, 2);
        x.row(1, 0);
        int[][] none = {{0, 3, 0, 0}, {0, -1, 0, 0}, {0, 0, 0, 3}, {0, 0, 0, -1}, {1, 1, 0, 0}, {0, 0, 1, 1}, {0, Edge.MAX, 0, 0},
            {0, Edge.MIN, 0, 0}, {0, 0, 0, Edge.MAX}, {0, 0, 0, Edge.MIN}};
        for (int[] c : none) Edge.found(x, "copy(" + c[0] + ", " + c[1] + ", " + c[2] + ", " + c[3] + ", 0)", Edge.BEYOND,
            copyCall(c[0], c[1], c[2], c[3], 0));
        anew("6 BEYOND: not so many there");
        fill(0, 1, 2, 3);
        fill(1, 4, 5);
        int[][] many = {{0, 0, 1, 0, 3}, {1, 0, 0, 0, 3}, {0, 1, 0, 0, 3}, {0, 0, 0, 1, 3}, {0, 3, 1, 0, 1}, {1, 0, 0, 3, 1},
            {0, -1, 1, 0, 1}, {0, 0, 1, -1, 2}, {0, 0, 0, 0, 4}, {0, 0, 0, 0, Edge.MAX}, {0, 1, 0, 1, Edge.MAX}, {0, Edge.MAX, 0, 0, 1},
            {0, 0, 0, Edge.MAX, 1}, {0, Edge.MAX, 0, Edge.MAX, Edge.MAX}, {0, Edge.MIN, 0, 0, 1}, {0, 0, 0, Edge.MIN, 1}};
        for (int[] c : many) Edge.found(x, "copy" + java.util.Arrays.toString(c), Edge.BEYOND, copyCall(c[0], c[1], c[2], c[3], c[4]));
        dueRow("nothing came", 0, 1, 2, 3);
        dueRow("nothing came", 1, 4, 5);
        anew("6: NOTHING (either) ahead of BEYOND");
        fill(0, 1);
        Edge.found(x, "copy(1, 9, 0, 9, 9)", Edge.NOTHING, copyCall(1, 9, 0, 9, 9));
        Edge.found(x, "copy(0, 9, 1, 9, 9)", Edge.NOTHING, copyCall(0, 9, 1, 9, 9));
        Edge.found(x, "copy(1, 0, 2, 0, 0)", Edge.NOTHING, copyCall(1, 0, 2, 0, 0));
        anew("6: SIZE (n below 0) ahead of NOTHING, BEYOND");
        fill(0, 1);
        for (int n : new int[] {-1, Edge.MIN}) {
            Edge.found(x, "copy(1, 9, 2, 9, " + n + ")", Edge.SIZE, copyCall(1, 9, 2, 9, n));
            Edge.found(x, "copy(0, 9, 0, 9, " + n + ")", Edge.SIZE, copyCall(0, 9, 0, 9, n));
            Edge.found(x, "copy(0, 0, 0, 0, " + n + ")", Edge.SIZE, copyCall(0, 0, 0, 0, n));
        }
        anew("6: BAD ahead of SIZE");
        for (int r : Edge.beyond(6)) {
            Edge.refused(x, "copy(" + r + ", 0, 0, 0, -1)", Edge.BAD, copyCall(r, 0, 0, 0, -1));
            Edge.refused(x, "copy(0, 0, " + r + ", 0, -1)", Edge.BAD, copyCall(0, 0, r, 0, -1));
        }
    }

    private static void dueMean(int want, int... values) {
        fill(5, values);
        Edge.tells(x, "mean of " + java.util.Arrays.toString(values), x.mean(5), 1, want);
    }

    private static void mean() {
        anew("7: the mean, cut");
        dueMean(-5, -5);
        dueMean(3, 3, 4);
        dueMean(-3, -3, -4);
        dueMean(0, 0, -1);
        dueMean(0, 1, 0, 0);
        dueMean(0, -2, 1, 0);
        dueMean(1, 0, 0, 5);
        dueMean(-1, 0, 0, -5);
        anew("7: the mean of ints that together are no int");
        dueMean(Edge.MAX, Edge.MAX, Edge.MAX);
        dueMean(Edge.MIN, Edge.MIN, Edge.MIN);
        dueMean(0, Edge.MIN, Edge.MAX);
        int[] all = new int[40];
        java.util.Arrays.fill(all, Edge.MIN);
        dueMean(Edge.MIN, all);
        all[39] = Edge.MAX;
        dueMean(-2040109465, all);
        anew("7 NOUGHT: a ROW of none");
        x.row(0, 0);
        Edge.found(x, "mean(0)", Edge.NOUGHT, () -> x.mean(0));
        anew("7 NOTHING: a ROW that is missing");
        Edge.found(x, "mean(0)", Edge.NOTHING, () -> x.mean(0));
        anew("7 BAD: ahead of NOTHING");
        for (int r : Edge.beyond(6)) Edge.refused(x, "mean(" + r + ")", Edge.BAD, () -> x.mean(r));
    }

    private static void text() {
        anew("8: a TEXT is there with n blanks: n (0 .. 80)");
        for (int t = 0; t <= 3; t++) {
            int text = t;
            for (int n : new int[] {0, 1, 79, 80}) {
                Edge.plain(x, "text(" + t + ", " + n + ")", n, () -> x.text(text, n));
                Edge.found(x, "put(" + t + ", " + n + ", 0)", Edge.BEYOND, () -> x.put(text, n, 0));
                for (int i = 0; i < n; i++) Edge.due("put(" + t + ", " + i + ", 0) of a blank", x.put(t, i, 0), 1032);
            }
            Edge.due("count(7)", x.count(7), t + 1);
        }
        Edge.due("text(3, 80) anew", x.text(3, 80), 80);
        for (int i = 0; i < 80; i++) Edge.due("put(3, " + i + ", 0): a blank again", x.put(3, i, 0), 1032);
        anew("8 BAD: t that is no TEXT (0 .. 3)");
        for (int t : Edge.beyond(4)) Edge.refused(x, "text(" + t + ", 0)", Edge.BAD, () -> x.text(t, 0));
        anew("8 BAD: also n above 80");
        x.text(0, 1);
        for (int n : new int[] {81, 82, 256, Edge.MAX}) {
            Edge.refused(x, "text(0, " + n + ")", Edge.BAD, () -> x.text(0, n));
            Edge.refused(x, "text(1, " + n + ")", Edge.BAD, () -> x.text(1, n));
        }
        anew("8 SIZE: below 0");
        for (int n : new int[] {-1, -80, Edge.MIN}) Edge.found(x, "text(0, " + n + ")", Edge.SIZE, () -> x.text(0, n));
        anew("8: BAD ahead of SIZE");
        for (int t : Edge.beyond(4)) Edge.refused(x, "text(" + t + ", -1)", Edge.BAD, () -> x.text(t, -1));
    }

    private static void put() {
        anew("9: v, cut to a byte (-128 .. 127); what it was, and 1000 more");
        x.text(2, 80);
        int[][] cut = {{0, 0}, {127, 127}, {128, -128}, {129, -127}, {255, -1}, {256, 0}, {257, 1}, {-1, -1}, {-128, -128}, {-129, 127},
            {-256, 0}, {-257, -1}, {383, 127}, {384, -128}, {Edge.MAX, -1}, {Edge.MIN, 0}, {65536 + 65, 65}};
        int was = 32;
        for (int[] c : cut) {
            int before = was;
            Edge.plain(x, "put(2, 0, " + c[0] + ")", before + 1000, () -> x.put(2, 0, c[0]));
            Edge.due("put(2, 79, " + c[0] + ")", x.put(2, 79, c[0]), before + 1000);
            was = c[1];
        }
        Edge.due("put(2, 1, 0): no other byte", x.put(2, 1, 0), 1032);
        anew("9 BEYOND: a byte that there is not");
        x.text(0, 3);
        for (int i : new int[] {-1, 3, 4, 79, 80, Edge.MAX, Edge.MIN}) Edge.found(x, "put(0, " + i + ", 1)", Edge.BEYOND, () -> x.put(0, i, 1));
        x.text(1, 0);
        Edge.found(x, "put(1, 0, 1) of a TEXT of none", Edge.BEYOND, () -> x.put(1, 0, 1));
        x.text(2, 80);
        Edge.found(x, "put(2, 80, 1) of the longest TEXT", Edge.BEYOND, () -> x.put(2, 80, 1));
        anew("9 NOTHING: ahead of BEYOND");
        for (int i : new int[] {-1, 0, 80}) Edge.found(x, "put(3, " + i + ", 1)", Edge.NOTHING, () -> x.put(3, i, 1));
        anew("9 BAD: ahead of NOTHING");
        for (int t : Edge.beyond(4)) Edge.refused(x, "put(" + t + ", -1, 1)", Edge.BAD, () -> x.put(t, -1, 1));
    }

    public static void main(String[] args) {
        newObject();
        row();
        lay();
        at();
        tear();
        copy();
        mean();
        text();
        put();
        Edge.end("EdgeRowsTest");
    }
}
