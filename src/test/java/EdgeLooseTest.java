/** Boundary cases of LOOSE nights, STUCK boards and QUARRELS (part 4 of Terms): promises 35 to 38. */
public final class EdgeLooseTest {
    private static final int[] NO_PRICES = {-1, 100, 101, 256, Edge.MAX, Edge.MIN};
    private static CreakBoards x;

    private static Edge.Call cheapestCall(int miss, int self) {
        return () -> x.cheapest(miss, self);
    }

    private static void dueCheapest(String house, String night, int miss, int self, int want, int misses) {
        x = Make.night(house, night);
        String call = "cheapest(" + miss + ", " + self + ") of '" + house + "': '" + night + "'";
        Edge.tells(x, call, x.cheapest(miss, self), want, misses);
    }

    private static void none(String house, String night) {
        x = Make.night(house, night);
        x.event(4, 0, 0, 0);
        x.back(x.count(4) - 1);
        x.told(0, 0);
        for (int price : new int[] {0, 1, 99}) {
            Edge.refused(x, "cheapest(" + price + ", " + price + ") of '" + house + "': '" + night + "'", Edge.NONE, cheapestCall(price, price));
        }
    }

    private static void misses() {
        Edge.of("35: a night that can be costs nothing");
        for (int price : new int[] {0, 1, 99}) {
            dueCheapest("r2m5D0-1w1:0", "s0@2", price, price, 0, 0);
            dueCheapest("r2m5d0-1", "n0@0", price, price, 0, 0);
        }
        x = new CreakBoards();
        Edge.tells(x, "cheapest(99, 99) without a HOUSE", x.cheapest(99, 99), 0, 0);
        Edge.of("35: a MISS: a DOOR with a BOARD that some pass in a minute without a SOUND");
        for (int price : new int[] {0, 1, 98, 99}) {
            dueCheapest("r2m5D0-1w1:0", "y1@5", price, 99, price, 1);
            dueCheapest("r2m1D0-1w1:0", "y1@1", price, 0, price, 1);
            dueCheapest("r3m5D0-1D1-2w2:0", "y2@5", price, 0, 2 * price, 2);
        }
        dueCheapest("r2m5d0-1w1:0", "y1@5", 99, 99, 0, 0);
        dueCheapest("r2m5D0-1d0-1w1:0", "y1@5", 99, 99, 0, 0);
        dueCheapest("r2m5D0-1D0-1w1:0", "s1@3y1@5", 99, 99, 0, 0);
        dueCheapest("r2m5D0-1D0-1w1:0", "s1@4y1@3y1@5", 99, 1, 100, 1);
        Edge.of("35: some pass, one or more: one MISS; two DOORS, two minutes: two");
        dueCheapest("r2m1D0-1w1:0w1:0w1:0", "y1/0@1y1/1@1y1/2@1", 99, 0, 99, 1);
        dueCheapest("r2m1D0-1w1:0w1:1", "y1/0@1y0/1@1", 99, 0, 99, 1);
        dueCheapest("r3m1D0-1D0-2w1:0w1:0", "y1@1y2@1", 99, 0, 198, 2);
        dueCheapest("r2m2D0-1w1:0w1:0", "y1/0@1y0/0@2", 99, 0, 198, 2);
        Edge.of("35: a MISS in minute 0, in LAST less 1");
        dueCheapest("r2m5D0-1w1:0", "x0@1-4y1@5", 7, 0, 7, 1);
        dueCheapest("r2m5D0-1w1:0", "x0@0-3y1@5", 7, 0, 7, 1);
        dueCheapest("r2m30D0-1w1:0", "x0@0-28y1@30", 7, 0, 7, 1);
        Edge.of("35: the most MISSES that 24 EVENTS ask for here: 72");
        x = Make.house("r6m24D0-1D1-2D2-3D3-4D4-5D0-5w1:0w1:2w1:4");
        for (int t = 3; t <= 24; t += 3) {
            for (int w = 0; w < 3; w++) x.event(3, (2 * w + t) % 6, w, t);
        }
        Edge.tells(x, "cheapest(99, 99)", x.cheapest(99, 99), 7128, 72);
        Edge.tells(x, "cheapest(1, 0)", x.cheapest(1, 0), 72, 72);
        Edge.tells(x, "cheapest(0, 99)", x.cheapest(0, 99), 0, 72);
    }

    private static void selfs() {
        Edge.of("35: a SELF: a SOUND of a DOOR that none passes then");
        for (int price : new int[] {0, 1, 98, 99}) {
            dueCheapest("r2m5D0-1", "s0@0", 99, price, price, 0);
            dueCheapest("r2m5D0-1", "s0@4", 99, price, price, 0);
            dueCheapest("r3m5D0-1w1:2", "s0@0s0@4", 99, price, 2 * price, 0);
            dueCheapest("r2m1D0-1D0-1w1:0", "s0@0s1@0", 99, price, price, 0);
            dueCheapest("r2m2D0-1w2:0", "s0@0s0@1", 99, price, price, 0);
        }
        Edge.of("35: a SOUND of a DOOR that is SHUT");
        dueCheapest("r2m5D0-1w1:0", "s0@2x0@2-2", 0, 9, 9, 0);
        dueCheapest("r2m5D0-1w1:0", "s0@2x0@2-2y1@5", 5, 9, 14, 1);
        Edge.of("35: all SELFS of 24 SOUNDS");
        x = Make.house("r2m30D0-1");
        for (int t = 6; t < 30; t++) x.event(1, 0, 0, t);
        Edge.tells(x, "cheapest(0, 99)", x.cheapest(0, 99), 2376, 0);
        Edge.tells(x, "cheapest(99, 1)", x.cheapest(99, 1), 24, 0);
    }

    private static void fewestMisses() {
        Edge.of("35: the fewest MISSES of all as cheap");
        dueCheapest("r2m2D0-1w1:0", "s0@0y0@2", 4, 4, 4, 0);
        dueCheapest("r2m2D0-1w1:0", "s0@0y0@2", 3, 4, 3, 1);
        dueCheapest("r2m2D0-1w1:0", "s0@0y0@2", 4, 3, 3, 0);
        dueCheapest("r2m2D0-1w1:0", "s0@0y0@2", 0, 0, 0, 0);
        dueCheapest("r2m2D0-1w1:0", "s0@0y0@2", 0, 1, 0, 1);
        dueCheapest("r2m3D0-1D0-1w1:0", "s0@0y1@1y0@3", 2, 1, 2, 1);
        dueCheapest("r2m5D0-1w1:0", "y1@1y0@2y1@5", 0, 0, 0, 3);
        Edge.of("35: PRICES 0 and 99, each");
        for (int miss : new int[] {0, 99}) {
            for (int self : new int[] {0, 99}) dueCheapest("r2m1D0-1D0-1w1:0", "s0@0x0@0-0y1@1", miss, self, miss + self, 1);
        }
        Edge.of("35 NONE: no walks are as all other EVENTS tell (SEEN, THIS, BARE, SHUT); asked() stays");
        none("r2m5w1:0", "y1@5");
        none("r2m5w1:0w1:1", "y0/1@0");
        none("r2m5w1:0", "n0@3");
        none("r2m5D0-1w1:0", "x0@0-4y1@5");
        none("r2m5d0-1w2:0", "y1@1y0@2");
        none("r2m5D0-1", "s0@0y0@0");
        Edge.of("35 BAD: a PRICE that is not 0 .. 99; ahead of NONE");
        for (String night : new String[] {"", "y0@0n0@0"}) {
            x = Make.night("r2m5D0-1w1:0", night);
            for (int price : NO_PRICES) {
                Edge.refused(x, "cheapest(" + price + ", 0)", Edge.BAD, cheapestCall(price, 0));
                Edge.refused(x, "cheapest(0, " + price + ")", Edge.BAD, cheapestCall(0, price));
                Edge.refused(x, "cheapest(99, " + price + ")", Edge.BAD, cheapestCall(99, price));
                Edge.refused(x, "cheapest(" + price + ", " + price + ")", Edge.BAD, cheapestCall(price, price));
            }
        }
    }

    private static Edge.Call settleCall(int miss, int self, int head) {
        return () -> x.settle(miss, self, head);
    }

    private static void dueSettle(int miss, int self, int head, int want, int sum) {
        Edge.tells(x, "settle(" + miss + ", " + self + ", " + head + ")", x.settle(miss, self, head), want, sum);
    }

    private static void settle() {
        Edge.of("36: the k for which the sum is least: 0 to all WALKERS");
        x = Make.night("r2m2D0-1w1:0", "s0@0");
        dueSettle(0, 99, 0, 1, 0);
        dueSettle(0, 99, 98, 1, 98);
        dueSettle(0, 98, 99, 0, 98);
        x = Make.night("r3m2w1:0w1:1w1:2", "y1@0");
        dueSettle(9, 9, 5, 2, 10);
        x = Make.night("r3m2w1:0w1:1w1:2", "y2@0");
        dueSettle(9, 9, 0, 3, 0);
        dueSettle(9, 9, 99, 3, 297);
        x = Make.night("r6m1D0-1D2-3D4-5w1:0w1:2w1:4", "s0@0s1@0s2@0");
        dueSettle(0, 20, 19, 3, 57);
        dueSettle(0, 20, 21, 0, 60);
        dueSettle(0, 99, 99, 0, 297);
        dueSettle(0, 99, 98, 3, 294);
        Edge.of("36: the least k of alike ones");
        dueSettle(0, 20, 20, 0, 60);
        dueSettle(0, 0, 0, 0, 0);
        x = Make.night("r2m2D0-1w1:0w1:0", "s0@0");
        dueSettle(0, 9, 0, 1, 0);
        dueSettle(0, 9, 9, 0, 9);
        Edge.of("36: by these alone");
        x = Make.night("r2m2D0-1w1:0w1:1", "y0@1n1@1");
        dueSettle(50, 0, 0, 1, 0);
        x = Make.night("r2m2D0-1w1:0w1:1w1:1", "y1@1");
        dueSettle(50, 0, 49, 2, 98);
        dueSettle(50, 0, 50, 1, 100);
        dueSettle(50, 0, 51, 1, 101);
        dueSettle(99, 0, 99, 1, 198);
        Edge.of("36: THIS of others: none");
        x = Make.night("r2m2w1:0w1:0w1:0", "y0/1@2");
        dueSettle(0, 0, 99, 2, 198);
        x = Make.night("r2m2w1:0w1:0w1:0", "y0/2@2");
        dueSettle(0, 0, 99, 3, 297);
        x = Make.night("r2m2w1:0w1:0w1:0", "y0/0@2");
        dueSettle(0, 0, 99, 1, 99);
        Edge.of("36: without WALKERS, without a HOUSE");
        x = Make.night("r2m30D0-1", "s0@29");
        dueSettle(0, 99, 99, 0, 99);
        x = new CreakBoards();
        dueSettle(99, 99, 99, 0, 0);
        Edge.of("36 NONE: by no k; asked() stays");
        for (String night : new String[] {"y1@2", "n0@0y0@0", "y1/0@0"}) {
            x = Make.night("r2m2w1:0w1:0w1:0", night + "n1@0");
            x.told(0, 0);
            Edge.refused(x, "settle(1, 1, 1) of '" + night + "'", Edge.NONE, settleCall(1, 1, 1));
            Edge.refused(x, "settle(0, 0, 0) of '" + night + "'", Edge.NONE, settleCall(0, 0, 0));
        }
        Edge.of("36 BAD: a PRICE that is not 0 .. 99; ahead of NONE");
        for (String night : new String[] {"", "y0@0n0@0"}) {
            x = Make.night("r2m5D0-1w1:0", night);
            for (int price : NO_PRICES) {
                Edge.refused(x, "settle(" + price + ", 0, 0)", Edge.BAD, settleCall(price, 0, 0));
                Edge.refused(x, "settle(0, " + price + ", 0)", Edge.BAD, settleCall(0, price, 0));
                Edge.refused(x, "settle(0, 0, " + price + ")", Edge.BAD, settleCall(0, 0, price));
            }
        }
    }

    private static void dueStuck(String house, String night, int want) {
        x = Make.night(house, night);
        String call = "stuck() of '" + house + "': '" + night + "'";
        if (want == Edge.NONE || want == Edge.STATE) Edge.refused(x, call, want, () -> x.stuck());
        else Edge.plain(x, call, want, () -> x.stuck());
    }

    private static void stuck() {
        Edge.of("37: the last minute from which on that is so: 0 to LAST less 1");
        for (int last : new int[] {1, 2, 12, 30}) {
            for (int t = 1; t <= last; t++) dueStuck("r2m" + last + "D0-1w1:0", "y1@" + t, t - 1);
        }
        Edge.of("37: passes from s on are not heard, those ahead are");
        dueStuck("r2m6D0-1w1:0", "y1@1y0@6", 0);
        dueStuck("r2m6D0-1w1:0", "s0@0y0@6", 5);
        dueStuck("r2m6D0-1w1:0", "s0@2y1@3y0@6", 5);
        dueStuck("r2m6D0-1w1:0", "s0@2y0@4y1@6", 3);
        dueStuck("r3m6D0-1D1-2w1:0", "s0@0y2@2", 101);
        dueStuck("r3m6D0-1D1-2w1:0", "s1@1y2@2", 0);
        dueStuck("r3m6D0-1D1-2w1:0", "y2@2", Edge.NONE);
        dueStuck("r3m6d0-1D1-2w1:0", "y2@6", 105);
        dueStuck("r3m6D0-1d1-2w1:0", "y2@6", 4);
        dueStuck("r3m6d0-1D1-2w1:0", "y2@2", 101);
        dueStuck("r2m6D0-1w2:0", "s0@0y0@2", Edge.NONE);
        dueStuck("r2m6D0-1w2:0", "s0@0y0@3", 2);
        Edge.of("37: no SOUND of it may be from s on");
        for (int t = 0; t < 5; t++) dueStuck("r2m6D0-1w1:0", "s0@" + t + "y0@6", 5);
        dueStuck("r2m6D0-1w1:0", "s0@5y0@6", Edge.NONE);
        dueStuck("r2m6D0-1w1:0", "y1@3s0@3", Edge.NONE);
        dueStuck("r2m6D0-1w1:0", "y1@3s0@2y0@4", 3);
        dueStuck("r2m6D0-1w1:0w1:0", "y1@2y0@2s0@2y1/0@3y1/1@3", Edge.NONE);
        for (int d = 0; d < 8; d++) {
            String house = "r2m6" + "d0-1".repeat(d) + "D0-1" + "d0-1".repeat(7 - d) + "w1:0";
            x = Make.house(house);
            for (int other = 0; other < 8; other++) if (other != d) x.event(5, other, 5, 0);
            x.event(2, 0, 0, 6);
            for (int t = 0; t < 6; t++) {
                int itsDoor = d;
                int itsMinute = t;
                x.event(1, itsDoor, 0, itsMinute);
                if (t < 5) Edge.plain(x, "stuck(), DOOR " + d + " heard at " + t, 100 * d + 5, () -> x.stuck());
                else Edge.refused(x, "stuck(), DOOR " + d + " heard at 5", Edge.NONE, () -> x.stuck());
                x.back(8);
            }
        }
        Edge.of("37: the first DOOR: of 0 to 7 (8 DOORS)");
        for (int d = 0; d < 8; d++) {
            dueStuck("r2m30" + "d0-1".repeat(d) + "D0-1".repeat(8 - d) + "w1:0", "y1@30" + shut(d), 100 * d + 29);
            dueStuck("r2m30" + "D0-1".repeat(8) + "w1:0", "y1@30" + shut(d), 100 * d + 29);
            dueStuck("r2m1" + "D0-1".repeat(8) + "w1:0", "y1@1" + shut(d).replace("-29", "-0"), 100 * d);
        }
        Edge.of("37: the first DOOR, though another one may be so from a later minute on");
        dueStuck("r2m9D0-1D0-1w1:0", "y1@9x0@3-8", 2);
        dueStuck("r2m9D0-1D0-1w1:0", "y1@9x0@0-8", 108);
        Edge.of("37 NONE: no BOARD, no WALKER, no way by one BOARD alone");
        dueStuck("r2m6d0-1w1:0", "x0@0-5y1@6", Edge.NONE);
        dueStuck("r2m6w1:0", "y1@6", Edge.NONE);
        dueStuck("r2m6D0-1", "y1@6", Edge.NONE);
        dueStuck("r2m6D0-1", "s0@0", Edge.NONE);
        dueStuck("r1m1", "y0@0", Edge.NONE);
        dueStuck("r2m6D0-1w1:0", "x0@0-5y1@6", Edge.NONE);
        dueStuck("r2m6D0-1w1:0", "y1@0", Edge.NONE);
        dueStuck("r4m6D0-1D2-3w1:0w1:2", "y1@1y3@1", Edge.NONE);
        Edge.of("37 STATE: it can be; with no EVENT, too");
        dueStuck("r2m6D0-1w1:0", "", Edge.STATE);
        dueStuck("r2m6D0-1w1:0", "s0@0y1@6", Edge.STATE);
        dueStuck("r2m6d0-1w1:0", "y1@6", Edge.STATE);
        x = new CreakBoards();
        Edge.refused(x, "stuck() without a HOUSE", Edge.STATE, () -> x.stuck());
        Edge.of("37: whatever was asked ahead of it, and behind it");
        x = Make.night("r2m6D0-1w1:0", "y1@3");
        for (int i = 0; i < 7; i++) {
            Edge.due("stuck(), " + i, x.stuck(), 2);
            switch (i) {
                case 0: Edge.due("could()", x.could(), 0); break;
                case 1: Edge.due("asked()", x.asked(), 3); break;
                case 2: Edge.due("quarrel()", x.quarrel(), 1); break;
                case 3: Edge.due("cheapest(9, 9)", x.cheapest(9, 9), 9); break;
                case 4: Edge.due("settle(9, 9, 9)", x.settle(9, 9, 9), 1); break;
                case 5: Edge.due("fewest()", x.fewest(), -9); break;
                default: Edge.due("ways()", x.ways(), 0);
            }
        }
        x.back(0);
        Edge.tells(x, "passes(0)", x.passes(0), 0, 0);
        x = Make.night("r3m6D0-1D1-2w1:01", "y0@0y2@6");
        Edge.refused(x, "stuck() ahead of quarrel()", Edge.NONE, () -> x.stuck());
        Edge.due("quarrel()", x.quarrel(), 1);
        Edge.refused(x, "stuck() behind quarrel()", Edge.NONE, () -> x.stuck());
    }

    private static String shut(int doors) {
        StringBuilder all = new StringBuilder();
        for (int d = 0; d < doors; d++) all.append('x').append(d).append("@0-29");
        return all.toString();
    }

    private static void dueQuarrel(String house, String night, long stay) {
        x = Make.night(house, night);
        int events = x.count(4);
        String call = "quarrel() of '" + house + "': '" + night + "'";
        Edge.plain(x, call, Long.bitCount(stay), () -> x.quarrel());
        Edge.due(call + " many()", x.many(), stay);
        Edge.due(call + " count(4)", x.count(4), events);
    }

    private static void quarrel() {
        Edge.of("38: EVENT by EVENT, from the first on: of two alike the last stays");
        dueQuarrel("r1", "y0@0y0@12", 2);
        dueQuarrel("r1", "y0@0y0@0y0@0", 4);
        dueQuarrel("r2m5d0-1w1:0", "y1@0n0@0", 2);
        dueQuarrel("r2m5d0-1w1:0", "n0@0y1@0", 2);
        dueQuarrel("r2m5d0-1w1:0", "n0@3n1@3n0@4n1@4", 12);
        dueQuarrel("r2m5d0-1w1:0", "n0@3n0@4n1@3n1@4", 10);
        Edge.of("38: without it, and those left out already");
        dueQuarrel("r2m5d0-1w1:0", "x0@0-4x0@0-2x0@3-4y1@5", 14);
        dueQuarrel("r2m5d0-1w1:0", "x0@0-2x0@0-4x0@3-4y1@5", 10);
        dueQuarrel("r2m5d0-1w1:0", "y1@5x0@0-4y1@5", 6);
        Edge.of("38: an EVENT that has no part in it is left out, wherever it is");
        dueQuarrel("r2m5d0-1w1:0", "y0@1n0@3y1@4n1@3y0/0@5", 10);
        dueQuarrel("r2m5D0-1w1:0", "s0@0y1@1n1@2", 2);
        dueQuarrel("r2m5D0-1w1:0", "s0@0y1@1y0@1", 2);
        dueQuarrel("r2m5D0-1w1:0", "s0@2y1@1y0@1", 2);
        Edge.of("38: one stays");
        dueQuarrel("r2m5w1:0", "y1@5", 1);
        dueQuarrel("r2m5D0-1", "s0@4", 1);
        dueQuarrel("r2m5D0-1w1:0", "s0@4n0@0", 2);
        Edge.of("38: a SOUND told, and one that is missing");
        dueQuarrel("r2m5D0-1w1:0", "s0@0y0@5", 2 + 1);
        dueQuarrel("r2m5D0-1w1:0", "s0@0s0@0y0@5", 4 + 2);
        Edge.of("38: all 24 EVENTS stay");
        x = Make.house("r2m23d0-1w1:0");
        for (int t = 0; t < 23; t++) x.event(5, 0, t, t);
        Edge.refused(x, "quarrel() of 23", Edge.STATE, () -> x.quarrel());
        x.event(2, 1, 0, 23);
        Edge.plain(x, "quarrel() of 24", 24, () -> x.quarrel());
        Edge.due("many() of 24", x.many(), (1L << 24) - 1);
        Edge.due("count(4)", x.count(4), 24);
        Edge.of("38: of 24 the last, the first");
        x = Make.house("r2m23w1:0");
        for (int t = 0; t < 23; t++) x.event(4, 1, 0, t);
        x.event(4, 0, 0, 23);
        Edge.plain(x, "quarrel(), the last", 1, () -> x.quarrel());
        Edge.due("many(), the last", x.many(), 1L << 23);
        x.back(0);
        x.event(4, 0, 0, 0);
        for (int t = 0; t < 23; t++) x.event(4, 1, 0, t);
        Edge.plain(x, "quarrel(), the first", 1, () -> x.quarrel());
        Edge.due("many(), the first", x.many(), 1);
        Edge.of("38 STATE: it can be; with no EVENT, too; many() stays");
        x.back(0);
        Edge.refused(x, "quarrel() of no EVENT", Edge.STATE, () -> x.quarrel());
        x.event(2, 0, 0, 23);
        Edge.refused(x, "quarrel() of what can be", Edge.STATE, () -> x.quarrel());
        Edge.due("many()", x.many(), 1);
        x = new CreakBoards();
        Edge.refused(x, "quarrel() without a HOUSE", Edge.STATE, () -> x.quarrel());
        Edge.of("38: what was known of the night is known still");
        x = Make.night("r2m6d0-1w1:0", "n1@3n0@3");
        x.quarrel();
        Edge.tells(x, "could()", x.could(), 0, 3);
        x.back(1);
        Edge.tells(x, "empty(3)", x.empty(3), 2, 1);
    }

    public static void main(String[] args) {
        misses();
        selfs();
        fewestMisses();
        settle();
        stuck();
        quarrel();
        Edge.end("EdgeLooseTest");
    }
}
