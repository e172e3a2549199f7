/** Promises 35 to 38: cheapest, settle, stuck, quarrel. */
public final class LooseTest {
    private static void dueAsked(CreakBoards x, String call, long got, long want, long asked) {
        Check.due(call, got, want);
        Check.due(call + " asked()", x.asked(), asked);
    }

    private static final int[] NO_PRICES = {-1, 100, Integer.MAX_VALUE, Integer.MIN_VALUE};

    private static void cheapest() {
        CreakBoards x = Make.night("r2 m4 D0-1 w1:0", "y1@1 y0@4");
        dueAsked(x, "cheapest(3, 5): there and back unheard", x.cheapest(3, 5), 6, 2);
        dueAsked(x, "cheapest(99, 0)", x.cheapest(99, 0), 198, 2);
        dueAsked(x, "cheapest(0, 0)", x.cheapest(0, 0), 0, 2);
        x.event(1, 0, 0, 0);
        dueAsked(x, "cheapest(3, 5): one heard", x.cheapest(3, 5), 3, 1);
        x.event(1, 0, 0, 3);
        dueAsked(x, "cheapest(3, 5): both heard", x.cheapest(3, 5), 0, 0);
        x.event(1, 0, 0, 2);
        dueAsked(x, "cheapest(3, 5): back and there again, once unheard", x.cheapest(3, 5), 3, 1);
        dueAsked(x, "cheapest(6, 5): one by itself", x.cheapest(6, 5), 5, 0);
        dueAsked(x, "cheapest(5, 5): alike, the fewest misses", x.cheapest(5, 5), 5, 0);
        x.event(1, 0, 0, 1);
        dueAsked(x, "cheapest(3, 5): all passed", x.cheapest(3, 5), 0, 0);
        x.event(5, 0, 3, 3);
        dueAsked(x, "cheapest(3, 5): the last by itself", x.cheapest(3, 5), 10, 0);
        dueAsked(x, "cheapest(5, 0)", x.cheapest(5, 0), 0, 0);
        dueAsked(x, "cheapest(0, 5): back at 1 or 2", x.cheapest(0, 5), 10, 0);
        for (int p : NO_PRICES) {
            Check.due("cheapest(" + p + ", 0)", x.cheapest(p, 0), -1);
            Check.due("cheapest(0, " + p + ")", x.cheapest(0, p), -1);
        }
        x.could();
        x.event(4, 1, 0, 1);
        x.told(0, 3);
        dueAsked(x, "cheapest(1, 1) NONE", x.cheapest(1, 1), -9, 1);
        x = Make.night("r2 m4 D0-1 w1:0 w1:0", "y1/0@1 y1/1@1");
        dueAsked(x, "one miss of two walkers", x.cheapest(7, 0), 7, 1);
        x = Make.night("r2 m4 D0-1 d0-1 w1:0", "y1@1 y0@4");
        dueAsked(x, "a door without a board is no miss", x.cheapest(7, 1), 0, 0);
        x = Make.night("r2 m1 D0-1 D0-1 D0-1 w1:0", "s0@0 s1@0 s2@0");
        dueAsked(x, "two by themselves", x.cheapest(1, 7), 14, 0);
        x = Make.night("r2 m2 D0-1 D0-1 w1:0", "s0@0 y1@2");
        dueAsked(x, "of alike prices the fewest misses", x.cheapest(1, 0), 0, 0);
        x = Make.night("r2 m4 D0-1 w1:0", "s0@1");
        dueAsked(x, "fewest misses by a price of 0", x.cheapest(0, 9), 0, 0);
        x = Make.night("r3 m4 D0-1 D0-1 D0-2 w1:0", "s0@0 x0@0-3 y1@1");
        dueAsked(x, "another door instead", x.cheapest(2, 3), 5, 1);
        x = Make.night("r2 m3 D0-1 w2:0", "s0@0 s0@1");
        dueAsked(x, "pace 2 passes one", x.cheapest(5, 3), 3, 0);
    }

    private static void settle() {
        CreakBoards x = Make.night("r2 m4 D0-1 w1:0 w1:1", "s0@0 s0@1");
        dueAsked(x, "settle(1, 5, 9): one does", x.settle(1, 5, 9), 1, 9);
        dueAsked(x, "settle(1, 5, 10): alike, the least", x.settle(1, 5, 10), 0, 10);
        dueAsked(x, "settle(1, 5, 11): boards speak", x.settle(1, 5, 11), 0, 10);
        dueAsked(x, "settle(1, 5, 0)", x.settle(1, 5, 0), 1, 0);
        x.event(2, 1, 0, 0);
        dueAsked(x, "settle(1, 5, 0): both must be", x.settle(1, 5, 0), 2, 0);
        dueAsked(x, "settle(1, 5, 99)", x.settle(1, 5, 99), 2, 198);
        x.back(2);
        x.event(3, 1, 1, 0);
        dueAsked(x, "settle(1, 5, 99): THIS of the second", x.settle(1, 5, 99), 2, 198);
        x.event(2, 0, 0, 2);
        x.event(4, 0, 0, 2);
        dueAsked(x, "settle(1, 5, 99) NONE", x.settle(1, 5, 99), -9, 198);
        for (int p : NO_PRICES) {
            Check.due("settle(" + p + ", 0, 0)", x.settle(p, 0, 0), -1);
            Check.due("settle(0, " + p + ", 0)", x.settle(0, p, 0), -1);
            Check.due("settle(0, 0, " + p + ")", x.settle(0, 0, p), -1);
        }
        x = new CreakBoards();
        dueAsked(x, "settle(9, 9, 9) of nobody", x.settle(9, 9, 9), 0, 0);
        x = Make.night("r2 m4 D0-1 w1:0 w1:1 w1:1", "y1@3");
        dueAsked(x, "settle(50, 1, 60): one misses", x.settle(50, 1, 60), 1, 110);
        dueAsked(x, "settle(60, 1, 50): two", x.settle(60, 1, 50), 2, 100);
    }

    private static void stuck() {
        CreakBoards x = Make.night("r2 m6 D0-1 w1:0", "y1@5");
        Check.due("stuck(): from 4 on", x.stuck(), 4);
        x.back(0);
        x.event(2, 1, 0, 6);
        Check.due("stuck(): from 5 on", x.stuck(), 5);
        x.event(1, 0, 0, 3);
        Check.due("stuck() STATE", x.stuck(), -4);
        x.event(2, 0, 0, 5);
        Check.due("stuck(): heard at 3, not at 4, 5", x.stuck(), 4);
        x.event(1, 0, 0, 5);
        Check.due("stuck(): heard behind it", x.stuck(), -9);
        x = Make.night("r3 m6 d0-1 D0-2 D0-1 D0-2 w1:0", "x0@0-5 y1@4 s1@0");
        Check.due("stuck(): the door 1 has no sound it could miss", x.stuck(), -9);
        x.back(2);
        Check.due("stuck(): door 2 till 4", x.stuck(), 203);
        x = Make.night("r3 m6 D0-1 D0-1 w1:0", "y1@4");
        Check.due("stuck(): the first door", x.stuck(), 3);
        x.event(5, 0, 5, 0);
        Check.due("stuck(): a shut one is passed by nobody", x.stuck(), 103);
        x = Make.night("r2 m6 D0-1 w1:0", "n0@0");
        Check.due("stuck(): cannot from the first minute on", x.stuck(), -9);
        x = Make.night("r2 m2 d0-1 w1:0", "n0@0");
        Check.due("stuck(): no board", x.stuck(), -9);
        x = Make.night("r3 m6 D0-1 D1-2 w2:0", "s0@1 y2@6 n2@5");
        Check.due("stuck(): of pace 2", x.stuck(), 105);
        x = Make.night("r2 m6 D0-1 w1:0", "s0@5 y0@6");
        Check.due("stuck(): a sound in the last minute", x.stuck(), -9);
    }

    private static void dueQuarrel(String house, String night, int stay, long bits) {
        CreakBoards x = Make.night(house, night);
        Check.due("quarrel() of " + house + ": " + night, x.quarrel(), stay);
        Check.due("many() of " + house + ": " + night, x.many(), bits);
        Check.due("count(4) stays", x.count(4), Make.night(house, night).count(4));
    }

    private static void quarrel() {
        dueQuarrel("r1", "y0@3", 1, 1);
        dueQuarrel("r1", "n0@4 y0@3 n0@5", 1, 2);
        dueQuarrel("r2 m6 d0-1 w1:0", "n1@3 y1@4 x0@3-3 n0@4 x0@0-5", 2, 24);
        dueQuarrel("r2 m6 d0-1 w1:0", "n0@0 y1@4 x0@0-5 n0@0", 1, 8);
        dueQuarrel("r2 m6 D0-1 w1:0", "s0@1 y1@2 s0@0 y0@3", 2, 12);
        dueQuarrel("r2 m6 D0-1 w1:0", "y1@2 s0@1 s0@2 y1@3", 3, 14);
        CreakBoards x = Make.house("r2 m6 d0-1 w1:0");
        Check.due("quarrel() STATE", x.quarrel(), -4);
        Check.due("many() stays", x.many(), 0);
        for (int e = 0; e < 23; e++) x.event(2, 0, 0, e % 7);
        x.event(4, 0, 0, 6);
        Check.due("quarrel() of 24", x.quarrel(), 2);
        Check.due("many() of 24", x.many(), 1L << 20 | 1L << 23);
        Check.due("asked() stays", x.asked(), 0);
        x.back(23);
        Check.due("quarrel() STATE again", x.quarrel(), -4);
        Check.due("many() stays", x.many(), 1L << 20 | 1L << 23);
    }

    public static void main(String[] args) {
        cheapest();
        settle();
        stuck();
        quarrel();
        Check.end("LooseTest");
    }
}
