/** Promises 1 to 9: a new object, rows and texts. */
public final class ShelfTest {
    private static final int[] WRONG_ROWS = {-1, 6, 7, Integer.MAX_VALUE, Integer.MIN_VALUE};
    private static final int[] WRONG_TEXTS = {-1, 4, 5, Integer.MAX_VALUE, Integer.MIN_VALUE};

    private static void newObject() {
        CreakBoards x = new CreakBoards();
        int[] counts = {1, 0, 0, 12, 0, 0, 0, 0};
        for (int what = 0; what < 8; what++) Check.due("new count(" + what + ")", x.count(what), counts[what]);
        Check.due("new asked()", x.asked(), 0);
        Check.due("new many()", x.many(), 0);
        Check.due("new upper()", x.upper(), 0);
        Check.due("new lower()", x.lower(), 1);
        Check.due("new finding()", x.finding(), 0);
        for (int f = 1; f <= 5; f++) Check.due("new findings(" + f + ")", x.findings(f), 0);
        for (int r = 0; r < 6; r++) Check.due("new at(" + r + ", 0)", x.at(r, 0), -3);
        for (int t = 0; t < 4; t++) Check.due("new put(" + t + ", 0, 0)", x.put(t, 0, 0), -3);
        Check.due("new finding() 1", x.finding(), 1);
        Check.due("new could()", x.could(), 1);
        Check.due("new ways()", x.ways(), 1);
        Check.due("new ways() many()", x.many(), 1);
        Check.due("new told(0, 0)", x.told(0, 0), -1);
    }

    private static void row() {
        CreakBoards x = new CreakBoards();
        Check.due("row(0, 40)", x.row(0, 40), 40);
        Check.due("at(0, 39)", x.at(0, 39), 1);
        Check.due("at(0, 39) asked()", x.asked(), 0);
        x.lay(0, 1, 7);
        Check.due("row(0, 2) anew", x.row(0, 2), 2);
        x.at(0, 1);
        Check.due("row(0, 2) has 0", x.asked(), 0);
        Check.due("row(5, 0)", x.row(5, 0), 0);
        Check.due("two rows", x.count(6), 2);
        Check.due("row(0, 41)", x.row(0, 41), -1);
        Check.due("row(0, -1)", x.row(0, -1), -3);
        Check.due("row(0, -1) finding()", x.finding(), 5);
        Check.due("row(0, min)", x.row(0, Integer.MIN_VALUE), -3);
        for (int r : WRONG_ROWS) Check.due("row(" + r + ", -1)", x.row(r, -1), -1);
        x.at(0, 1);
        Check.due("row 0 stands as it was", x.asked(), 0);
        Check.due("at(0, 2)", x.at(0, 2), -3);
        Check.due("findings(5)", x.findings(5), 2);
    }

    private static void layAndAt() {
        CreakBoards x = new CreakBoards();
        Check.due("lay(0, 0, 1), missing", x.lay(0, 0, 1), -3);
        Check.due("finding() NOTHING", x.finding(), 1);
        x.row(0, 3);
        Check.due("lay(0, 0, min)", x.lay(0, 0, Integer.MIN_VALUE), 1);
        Check.due("was 0", x.asked(), 0);
        Check.due("lay(0, 0, max)", x.lay(0, 0, Integer.MAX_VALUE), 1);
        Check.due("was min", x.asked(), Integer.MIN_VALUE);
        Check.due("at(0, 0)", x.at(0, 0), 1);
        Check.due("is max", x.asked(), Integer.MAX_VALUE);
        for (int i : new int[] {-1, 3, 40, Integer.MAX_VALUE, Integer.MIN_VALUE}) {
            Check.due("lay(0, " + i + ", 1)", x.lay(0, i, 1), -3);
            Check.due("lay finding() BEYOND", x.finding(), 2);
            x.row(1, -1);
            Check.due("at(0, " + i + ")", x.at(0, i), -3);
            Check.due("at finding() BEYOND", x.finding(), 2);
            x.row(1, -1);
        }
        for (int r : WRONG_ROWS) {
            Check.due("lay(" + r + ", 0, 1)", x.lay(r, 0, 1), -1);
            Check.due("at(" + r + ", 0)", x.at(r, 0), -1);
        }
        Check.due("asked() stays", x.asked(), Integer.MAX_VALUE);
    }

    private static void tear() {
        CreakBoards x = new CreakBoards();
        Check.due("tear(5), missing", x.tear(5), -3);
        Check.due("tear finding()", x.finding(), 1);
        x.row(5, 0);
        x.row(4, 1);
        Check.due("tear(5)", x.tear(5), 1);
        Check.due("tear(5) again", x.tear(5), -3);
        Check.due("at(5, 0)", x.at(5, 0), -3);
        Check.due("one row stays", x.count(6), 1);
        for (int r : WRONG_ROWS) Check.due("tear(" + r + ")", x.tear(r), -1);
    }

    private static void fill(CreakBoards x, int r, int... values) {
        x.row(r, values.length);
        for (int i = 0; i < values.length; i++) x.lay(r, i, values[i]);
    }

    private static void dueRow(CreakBoards x, String what, int r, int... values) {
        for (int i = 0; i < values.length; i++) {
            Check.due(what + " at " + i, x.at(r, i), 1);
            Check.due(what + " asked at " + i, x.asked(), values[i]);
        }
        Check.due(what + " size", x.at(r, values.length), -3);
    }

    private static void copy() {
        CreakBoards x = new CreakBoards();
        fill(x, 0, 1, 2, 3, 4, 5);
        fill(x, 1, 6, 7);
        Check.due("copy(0, 3, 1, 0, 2)", x.copy(0, 3, 1, 0, 2), 1);
        dueRow(x, "copied", 1, 4, 5);
        Check.due("copy(0, 0, 0, 1, 4)", x.copy(0, 0, 0, 1, 4), 1);
        dueRow(x, "copied up in itself", 0, 1, 1, 2, 3, 4);
        Check.due("copy(0, 2, 0, 0, 3)", x.copy(0, 2, 0, 0, 3), 1);
        dueRow(x, "copied down in itself", 0, 2, 3, 4, 3, 4);
        Check.due("copy of none at the ends", x.copy(0, 5, 1, 2, 0), 1);
        int[][] beyond = {{0, 0, 1, 0, 3}, {1, 1, 0, 0, 2}, {0, 6, 1, 0, 0}, {0, -1, 1, 0, 0}, {0, 0, 1, 3, 0}, {0, 0, 1, -1, 0},
            {0, 0, 0, 1, 5}, {0, 0, 1, 0, Integer.MAX_VALUE}, {0, Integer.MAX_VALUE, 1, 0, 1}, {0, 0, 1, Integer.MIN_VALUE, 1},
            {0, Integer.MAX_VALUE, 1, 0, Integer.MAX_VALUE}};
        for (int[] c : beyond) {
            x.tear(2);
            String call = "copy(" + java.util.Arrays.toString(c) + ")";
            Check.due(call, x.copy(c[0], c[1], c[2], c[3], c[4]), -3);
            Check.due(call + " finding()", x.finding(), 2);
        }
        Check.due("copy from a missing row", x.copy(5, 9, 0, 9, 9), -3);
        Check.due("NOTHING ahead of BEYOND", x.finding(), 1);
        x.copy(0, 9, 0, 0, 1);
        Check.due("copy to a missing row", x.copy(0, 9, 5, 9, 9), -3);
        Check.due("NOTHING ahead of BEYOND", x.finding(), 1);
        Check.due("copy of less than none", x.copy(5, 9, 5, 9, -1), -3);
        Check.due("SIZE ahead of NOTHING", x.finding(), 5);
        for (int r : WRONG_ROWS) {
            Check.due("copy(" + r + ", ..)", x.copy(r, 0, 0, 0, -1), -1);
            Check.due("copy(.., " + r + ", ..)", x.copy(0, 0, r, 0, -1), -1);
        }
        dueRow(x, "refused changes nothing", 0, 2, 3, 4, 3, 4);
        dueRow(x, "refused changes nothing", 1, 4, 5);
    }

    private static void dueMean(CreakBoards x, int want, int... values) {
        fill(x, 3, values);
        Check.due("mean(3)", x.mean(3), 1);
        Check.due("mean(3) asked()", x.asked(), want);
    }

    private static void mean() {
        CreakBoards x = new CreakBoards();
        Check.due("mean(3), missing", x.mean(3), -3);
        Check.due("mean finding() NOTHING", x.finding(), 1);
        x.row(3, 0);
        Check.due("mean(3), of none", x.mean(3), -3);
        Check.due("mean finding() NOUGHT", x.finding(), 4);
        dueMean(x, 5, 5);
        dueMean(x, 2, 1, 2, 4);
        dueMean(x, -2, -1, -2, -4);
        dueMean(x, 0, 1, -2);
        dueMean(x, Integer.MAX_VALUE, Integer.MAX_VALUE, Integer.MAX_VALUE, Integer.MAX_VALUE);
        dueMean(x, Integer.MIN_VALUE, Integer.MIN_VALUE, Integer.MIN_VALUE);
        for (int r : WRONG_ROWS) Check.due("mean(" + r + ")", x.mean(r), -1);
        Check.due("asked() stays", x.asked(), Integer.MIN_VALUE);
    }

    private static void textAndPut() {
        CreakBoards x = new CreakBoards();
        Check.due("put(0, 0, 1), missing", x.put(0, 0, 1), -3);
        Check.due("put finding() NOTHING", x.finding(), 1);
        Check.due("text(0, 80)", x.text(0, 80), 80);
        Check.due("put(0, 79, 300)", x.put(0, 79, 300), 1032);
        Check.due("put(0, 79, -129): was 300 cut", x.put(0, 79, -129), 1044);
        Check.due("put(0, 79, 128): was -129 cut", x.put(0, 79, 128), 1127);
        Check.due("put(0, 79, 0): was 128 cut", x.put(0, 79, 0), 872);
        Check.due("text(0, 3) anew", x.text(0, 3), 3);
        Check.due("put(0, 2, 1)", x.put(0, 2, 1), 1032);
        Check.due("text(3, 0)", x.text(3, 0), 0);
        Check.due("two texts", x.count(7), 2);
        for (int i : new int[] {-1, 3, 80, Integer.MAX_VALUE, Integer.MIN_VALUE}) {
            x.text(1, -1);
            Check.due("put(0, " + i + ", 1)", x.put(0, i, 1), -3);
            Check.due("put finding() BEYOND", x.finding(), 2);
        }
        Check.due("put(3, 0, 1)", x.put(3, 0, 1), -3);
        Check.due("text(0, 81)", x.text(0, 81), -1);
        Check.due("text(0, -1)", x.text(0, -1), -3);
        Check.due("text finding() SIZE", x.finding(), 5);
        for (int t : WRONG_TEXTS) {
            Check.due("text(" + t + ", -1)", x.text(t, -1), -1);
            Check.due("put(" + t + ", 0, 0)", x.put(t, 0, 0), -1);
        }
        Check.due("text 0 stands as it was", x.put(0, 2, 1), 1001);
    }

    public static void main(String[] args) {
        newObject();
        row();
        layAndAt();
        tear();
        copy();
        mean();
        textAndPut();
        Check.end("ShelfTest");
    }
}
