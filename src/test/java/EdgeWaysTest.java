/** Boundary cases of WALKS, WAYS and "till a minute" (part 2 of Terms), and of promises 19 to 22, 24. */
public final class EdgeWaysTest {
    private static CreakBoards x;

    private static void dueWays(String house, String night, long many) {
        x = Make.night(house, night);
        String call = "ways() of '" + house + "': '" + night + "'";
        Edge.plain(x, call, many > 0 ? 1 : 0, () -> x.ways());
        Edge.due(call + " many()", x.many(), many);
    }

    private static void dueCan(String house, String night) {
        x = Make.night(house, night);
        Edge.plain(x, "could() of '" + house + "': '" + night + "'", 1, () -> x.could());
    }

    private static void dueCannot(String house, String night, int first) {
        x = Make.night(house, night);
        Edge.tells(x, "could() of '" + house + "': '" + night + "'", x.could(), 0, first);
    }

    private static void beginning() {
        Edge.of("WALK: in minute 0 in a ROOM in which he may begin");
        for (int begin = 1; begin < 64; begin++) {
            StringBuilder figures = new StringBuilder();
            for (int r = 0; r < 6; r++) if ((begin >> r & 1) != 0) figures.append(r);
            x = Make.house("r6m1d0-1d1-2d2-3d3-4d4-5w1:" + figures);
            Edge.due("where(0, 0) of " + figures, x.where(0, 0), begin);
            Edge.due("where(0, 1) of " + figures, x.where(0, 1), (begin | begin << 1 | begin >> 1) & 63);
        }
        dueCan("r2m3w1:0", "y0@0 n1@0");
        dueCannot("r2m3w1:0", "y1@0", 0);
        dueCannot("r2m3w1:0", "n0@0", 0);
        dueCan("r2m3w1:01", "y1/0@0");
        dueCan("r2m3w1:*", "n0@0");
        Edge.of("WALK: he stays, or passes a DOOR of the ROOM in which he is, from both sides");
        dueWays("r2m1d0-1w1:0", "", 2);
        dueWays("r2m1d0-1w1:1", "", 2);
        dueWays("r3m1d0-1w1:2", "", 1);
        dueWays("r2m1w1:0", "", 1);
        dueCan("r2m1d1-0w1:0", "y1@1");
        dueCan("r2m1d1-0w1:1", "y0@1");
        dueCannot("r3m2d0-1d1-2w1:0", "y2@1", 1);
        dueCan("r3m2d0-1d1-2w1:0", "y2@2");
        dueWays("r6m5d0-1d1-2d2-3d3-4d4-5w1:0", "y5@5", 1);
        dueCannot("r6m5d0-1d1-2d2-3d3-4d4-5w1:0", "y5@4", 4);
        Edge.of("WALK: PACE 2 stays at least one minute between two DOORS, PACE 1 need not");
        dueWays("r2m2d0-1w1:0", "", 4);
        dueWays("r2m2d0-1w2:0", "", 3);
        dueCan("r2m2d0-1w1:0", "y1@1y0@2");
        dueCannot("r2m2d0-1w2:0", "y1@1y0@2", 2);
        dueCan("r2m3d0-1w2:0", "y1@1y1@2y0@3");
        dueCannot("r3m2d0-1d1-2w2:0", "y2@2", 2);
        dueCan("r3m3d0-1d1-2w2:0", "y2@3");
        dueCannot("r2m2d0-1d0-1w2:0", "y1@1y0@2", 2);
        Edge.of("WALK: PACE 2 may pass from minute 0 on, and from the last but one");
        dueCan("r2m1d0-1w2:0", "y1@1");
        dueCan("r2m30d0-1w2:0", "y1@1y1@29y0@30");
        dueCan("r2m30d0-1w2:0", "y1@28y1@29y0@30");
        dueCannot("r2m30d0-1w2:0", "y0@28y1@29y0@30", 30);
        Edge.of("WALK: each WALKER by his own PACE");
        dueCan("r3m4d0-1w1:0w2:2", "y1@1y0@2y1@3y0@4");
        dueCannot("r3m4d0-1w2:0w1:2", "y1@1y0@2y1@3y0@4", 2);
        dueCan("r2m4d0-1w2:0w2:0", "y1@1y1/1@2y0/0@2y0@3y1@4");
    }

    private static void shutDoors() {
        Edge.of("SHUT: nobody passes from any minute t to u on, others do");
        for (int t = 0; t < 5; t++) {
            for (int u = t; u < 5; u++) {
                x = Make.night("r2m5d0-1w1:0", "x0@" + t + "-" + u);
                String night = " of SHUT " + t + " to " + u;
                Edge.tells(x, "passes(0)" + night, x.passes(0), 4 - u + t, 0);
                Edge.due("ways()" + night, x.ways(), 1);
                Edge.due("many()" + night, x.many(), 1 << 4 - u + t);
                Edge.due("where(0, " + t + ")" + night, x.where(0, t), t > 0 ? 3 : 1);
                Edge.due("where(0, " + (u + 1) + ")" + night, x.where(0, u + 1), t > 0 ? 3 : 1);
            }
        }
        Edge.of("SHUT: that DOOR alone");
        dueWays("r2m5d0-1d0-1w1:0", "x0@0-4", 32);
        dueWays("r2m5d0-1d0-1w1:0", "x0@0-4x1@0-4", 1);
        dueWays("r2m5d0-1d0-1w1:0", "x0@0-1x0@1-4", 32);
        Edge.of("SHUT: no WALKER");
        dueWays("r2m1d0-1w1:0w1:1w2:0", "", 8);
        dueWays("r2m1d0-1w1:0w1:1w2:0", "x0@0-0", 1);
        Edge.of("SHUT: the longest night");
        dueWays("r2m30d0-1w1:0", "x0@0-29", 1);
        dueWays("r2m30d0-1w1:0", "x0@0-28", 2);
        dueWays("r2m30d0-1w1:0", "x0@1-29", 2);
    }

    private static void boards() {
        Edge.of("WAY: of a DOOR with a BOARD that some pass there is a SOUND");
        dueWays("r2m5D0-1w1:0", "", 1);
        dueWays("r2m5d0-1w1:0", "", 32);
        dueWays("r2m5D0-1D0-1w1:0", "", 1);
        dueCannot("r2m5D0-1w1:0", "y1@1", 1);
        dueCannot("r2m5D0-1w1:0", "n0@5", 5);
        Edge.of("WAY: of a DOOR of which there is a SOUND some pass");
        dueWays("r2m5D0-1w1:0", "s0@0", 1);
        dueWays("r2m5D0-1w1:0", "s0@4", 1);
        dueWays("r2m5D0-1w1:0", "s0@0s0@1s0@2s0@3s0@4", 1);
        dueCannot("r3m5D0-1w1:2", "s0@0", 1);
        dueCannot("r3m5D0-1w1:2", "s0@4", 5);
        dueCannot("r2m5D0-1w2:0", "s0@3s0@4", 5);
        dueWays("r2m5D0-1w2:0", "s0@2s0@4", 1);
        Edge.of("WAY: just those DOORS");
        dueWays("r2m1D0-1D0-1w1:0", "s1@0", 1);
        dueCannot("r2m1D0-1D0-1w1:0", "s0@0s1@0", 1);
        dueWays("r2m1D0-1D0-1w1:0w1:0", "s0@0s1@0", 2);
        dueWays("r2m1D0-1D0-1w1:0w1:0w1:0", "s0@0s1@0", 12);
        dueWays("r2m1D0-1d0-1w1:0w1:0", "s0@0", 5);
        dueWays("r2m1D0-1d0-1w1:0w1:0", "", 4);
        Edge.of("WAY: some pass: one, or more of them");
        dueWays("r2m1D0-1w1:0w1:0", "s0@0", 3);
        dueWays("r2m1D0-1w1:0w1:1w2:0", "s0@0", 7);
        Edge.of("WAY: a SOUND that is told twice is a SOUND");
        dueWays("r2m1D0-1w1:0", "s0@0s0@0", 1);
        Edge.of("WAY: a DOOR with a SOUND that is SHUT");
        dueCannot("r2m5D0-1w1:0", "s0@2x0@2-2", 3);
        dueCan("r2m5D0-1w1:0", "s0@2x0@3-4x0@0-1");
    }

    private static void seen() {
        Edge.of("SEEN: somebody is in that ROOM in that minute (one, or more)");
        dueWays("r2m1d0-1w1:0w1:0", "y1@1", 3);
        dueWays("r2m1d0-1w1:0w1:0", "y1@1y0@1", 2);
        dueWays("r2m1d0-1w1:0w1:0", "y0@0", 4);
        dueCannot("r6m1w1:0w1:1w1:2", "y0@1y1@1y2@1y3@1", 1);
        dueCan("r6m30w1:3w1:4w1:5", "y3@30y4@30y5@30");
        Edge.of("THIS: that WALKER is");
        dueWays("r2m1d0-1w1:0w1:0", "y1/0@1", 2);
        dueWays("r2m1d0-1w1:0w1:0", "y1/1@1y0/0@1", 1);
        dueWays("r2m1d0-1w1:0w1:0w1:0", "y1/2@1", 4);
        dueCannot("r2m1d0-1w1:0w1:0", "y1/1@1y0/1@1", 1);
        dueCannot("r2m1w1:0w1:1", "y0/1@0", 0);
        Edge.of("BARE: nobody is");
        dueWays("r2m1d0-1w1:0w1:0", "n1@1", 1);
        dueWays("r2m1d0-1w1:0w1:0w1:1", "n0@1", 1);
        dueCannot("r2m1d0-1w1:0", "n0@1n1@1", 1);
        dueCan("r6m30w1:3w1:4w1:5", "n0@30n1@30n2@0");
        dueCannot("r6m30w1:3w1:4w1:5", "n5@30", 30);
        dueCannot("r6m30w1:3w1:4w1:5", "n3@0", 0);
        Edge.of("SEEN, BARE: in that minute alone");
        dueCan("r2m4d0-1w1:0", "y0@1n1@1y1@2n0@2y0@3n1@3y1@4n0@4");
        dueCannot("r2m4d0-1w1:0", "y0@1n0@1", 1);
    }

    private static void unlike() {
        Edge.of("WAYS are unlike, if some WALKER once passes another DOOR");
        dueWays("r2m1d0-1d0-1d0-1d0-1d0-1d0-1d0-1d0-1w1:0", "", 9);
        dueWays("r2m1D0-1D0-1d0-1d0-1w1:0", "s1@0", 1);
        dueWays("r2m2d0-1d0-1w2:0", "", 5);
        Edge.of("WAYS are unlike, if another WALKER does it");
        dueWays("r2m1d0-1w1:0w1:0", "n0@0", 0);
        dueWays("r2m1d0-1w1:*w1:*", "", 16);
        dueWays("r2m1d0-1w1:*w1:*w1:*", "", 64);
        dueWays("r6m1w1:*w2:*w1:*", "", 216);
        Edge.of("Without WALKERS there is one WAY, if there is no SOUND, no SEEN (THIS)");
        dueWays("r2m5D0-1", "", 1);
        dueWays("r6m30D0-1", "n0@0n5@30x0@0-29", 1);
        dueWays("r2m5D0-1", "s0@0", 0);
        dueWays("r2m5D0-1", "s0@4", 0);
        dueWays("r2m5D0-1", "y0@0", 0);
        dueWays("r2m5D0-1", "y1@5", 0);
        x = new CreakBoards();
        Edge.due("ways() without a HOUSE", x.ways(), 1);
        Edge.due("many() without a HOUSE", x.many(), 1);
        x.event(4, 0, 0, 12);
        Edge.due("ways() of BARE without a HOUSE", x.ways(), 1);
        x.event(2, 0, 0, 12);
        Edge.due("ways() of SEEN without a HOUSE", x.ways(), 0);
        Edge.due("many() of SEEN without a HOUSE", x.many(), 0);
    }

    private static void could() {
        Edge.of("19: 0: the first minute till which it cannot: SEEN, THIS, BARE in it, each minute");
        for (int last : new int[] {1, 2, 12, 30}) {
            String house = "r2m" + last + "w1:0";
            for (int t = 0; t <= last; t++) {
                dueCannot(house, "y1@" + t, t);
                dueCannot(house, "y1/0@" + t, t);
                dueCannot(house, "n0@" + t, t);
                dueCannot("r2m" + last, "y0@" + t, t);
                dueCan(house, "y0@" + t);
                dueCan(house, "n1@" + t);
                dueCan("r2m" + last, "n0@" + t);
            }
        }
        Edge.of("19: 0: the first minute till which it cannot: SOUNDS ahead of it, each minute");
        for (int last : new int[] {1, 2, 12, 30}) {
            for (int t = 0; t < last; t++) {
                dueCannot("r3m" + last + "D0-1w1:2", "s0@" + t, t + 1);
                dueCannot("r2m" + last + "D0-1", "s0@" + t, t + 1);
                dueCannot("r2m" + last + "D0-1w1:0", "s0@" + t + "x0@" + t + "-" + t, t + 1);
                dueCan("r2m" + last + "D0-1w1:0", "s0@" + t);
                dueCan("r2m" + last + "D0-1w1:0", "s0@" + t + "y1@" + (t + 1) + "y0@" + t);
                dueCannot("r2m" + last + "D0-1w1:0", "s0@" + t + "y0@" + (t + 1), t + 1);
            }
        }
        Edge.of("19: 0: the first minute till which it cannot: SHUT ahead of it");
        dueCannot("r2m6d0-1w1:0", "x0@0-4y1@5y1@6", 5);
        dueCannot("r2m6d0-1w1:0", "x0@0-5y1@6", 6);
        dueCan("r2m6d0-1w1:0", "x0@0-4y1@6");
        dueCannot("r2m6d0-1w1:0", "y1@3y0@4x0@3-3", 4);
        Edge.of("19: whatever comes later, and whichever is told first");
        dueCannot("r2m6d0-1w1:0", "y1@0n0@5n1@5", 0);
        dueCannot("r2m6d0-1w1:0", "n0@5n1@5y1@0", 0);
        dueCannot("r2m6d0-1w1:0", "n0@5n1@5", 5);
        dueCannot("r2m6d0-1w1:0", "n1@5n0@5y0/0@5", 5);
        dueCannot("r2m6D0-1w1:0", "s0@5 x0@5-5 s0@2 x0@1-3", 3);
        Edge.of("19: the NIGHT that there is now");
        x = Make.house("r2m6d0-1w1:0");
        Edge.plain(x, "could() of no EVENT", 1, () -> x.could());
        x.event(2, 1, 0, 0);
        Edge.tells(x, "could() behind event()", x.could(), 0, 0);
        x.back(0);
        Edge.plain(x, "could() behind back()", 1, () -> x.could());
        Make.text(x, 1, "n0@4n1@4");
        x.night(1);
        Edge.tells(x, "could() behind night()", x.could(), 0, 4);
        Edge.tells(x, "could() again", x.could(), 0, 4);
        x.house(0);
        Edge.plain(x, "could() behind house()", 1, () -> x.could());
    }

    private static void dueFewest(String house, String night, int want) {
        x = Make.night(house, night);
        String call = "fewest() of '" + house + "': '" + night + "'";
        if (want == Edge.NONE) Edge.refused(x, call, want, () -> x.fewest());
        else Edge.plain(x, call, want, () -> x.fewest());
    }

    private static void fewest() {
        Edge.of("20: the least k: 0, if it can be by nobody");
        dueFewest("r2m5", "", 0);
        dueFewest("r2m5D0-1", "n0@3x0@0-4", 0);
        dueFewest("r2m5w1:0w1:0w1:0", "", 0);
        dueFewest("r2m5w1:0w1:0w1:0", "n0@0", 0);
        x = new CreakBoards();
        Edge.plain(x, "fewest() without a HOUSE", 0, () -> x.fewest());
        Edge.of("20: k from 1 to all");
        dueFewest("r3m5w1:0w1:1w1:2", "y0@0", 1);
        dueFewest("r3m5w1:0w1:1w1:2", "y1@5", 2);
        dueFewest("r3m5w1:0w1:1w1:2", "y2@5", 3);
        dueFewest("r3m5w1:0w1:1w1:2", "y1@5y0@5", 2);
        dueFewest("r2m5D0-1w1:0", "s0@4", 1);
        dueFewest("r2m5D0-1w2:0w2:0", "s0@3s0@4", 2);
        Edge.of("20: THIS of others: it cannot");
        dueFewest("r3m5w1:*w1:*w1:*", "y0/0@5", 1);
        dueFewest("r3m5w1:*w1:*w1:*", "y0/1@0", 2);
        dueFewest("r3m5w1:*w1:*w1:*", "y0/2@5", 3);
        dueFewest("r3m5w1:*w1:*w1:*", "y0/2@5y0/0@0", 3);
        Edge.of("20: by these alone: who comes later need not fit");
        dueFewest("r3m5w1:0w1:1w1:2", "n1@0", 0);
        dueFewest("r3m5w1:0w1:1w1:2", "n1@0y0@0", 1);
        dueFewest("r3m5w1:0w1:1w1:2", "n2@0y1@0", 2);
        Edge.of("20: whatever was asked ahead of it, and behind it");
        x = Make.night("r2m1d0-1w1:0w1:0w1:0", "n0@1");
        Edge.due("could()", x.could(), 1);
        Edge.plain(x, "fewest() behind could()", 0, () -> x.fewest());
        Edge.tells(x, "empty(1) behind fewest()", x.empty(1), 1, 2);
        x = Make.night("r2m1D0-1w1:0w1:0w1:0", "s0@0n0@1");
        Edge.due("could()", x.could(), 1);
        Edge.plain(x, "fewest() behind could()", 1, () -> x.fewest());
        Edge.tells(x, "rooms(1, 1) behind fewest()", x.rooms(1, 1), 3, 3);
        x = Make.night("r2m1D0-1w1:0w1:0", "s0@0y1@1n0@1");
        Edge.due("could()", x.could(), 1);
        Edge.plain(x, "fewest() behind could()", 1, () -> x.fewest());
        Edge.tells(x, "whose(0) behind fewest()", x.whose(0), 3, 3);
        x = Make.night("r3m3d0-1d1-2w1:0w1:2", "y1@1y1@2");
        Edge.plain(x, "where(1, 3)", 7, () -> x.where(1, 3));
        Edge.plain(x, "fewest() behind where()", 1, () -> x.fewest());
        Edge.plain(x, "where(1, 3) behind fewest()", 7, () -> x.where(1, 3));
        Edge.of("20: NONE");
        dueFewest("r3m5w1:0w1:1w1:2", "n1@0y2@0", Edge.NONE);
        dueFewest("r3m5w1:0w1:1w1:2", "n0@0y0/1@0", Edge.NONE);
        dueFewest("r3m5", "y0@0", Edge.NONE);
        dueFewest("r3m5D0-1", "s0@4", Edge.NONE);
        dueFewest("r3m5w1:0", "y1@5", Edge.NONE);
        dueFewest("r3m30w1:0w1:0w1:0", "y1@30", Edge.NONE);
    }

    /** One WALKER, ten ways a minute for 15 minutes of five and 15 of two: 10 to the 15th; and one who stays apart. */
    private static final String JUST = "r3m30d0-1d0-1d0-1d0-1w1:0", ONE_MORE = "r3m30d0-1d0-1d0-1d0-1w1:02",
        HALF_SHUT = "x0@0-14x1@0-14x2@0-14";

    private static void ways() {
        Edge.of("21: 0 (none), and many() 0");
        dueWays("r2m5w1:0", "y1@3", 0);
        dueWays("r2m5w1:0w1:*", "y1/0@5", 0);
        x = Make.house("r2m3d0-1w1:0");
        x.ways();
        x.event(2, 1, 0, 0);
        Edge.due("ways() of none behind 8", x.ways(), 0);
        Edge.due("many() of none behind 8", x.many(), 0);
        Edge.of("21: one");
        dueWays("r1m1w1:0", "", 1);
        dueWays("r1m30w1:0w2:*w2:0", "", 1);
        Edge.of("21: 1000000000000000 are not SPENT");
        dueWays(JUST, HALF_SHUT, 1000000000000000L);
        Edge.of("21 SPENT: 1000000000000001");
        x.ways();
        x.event(2, 0, 0, 0);
        Edge.due("ways() with what is so", x.ways(), 1);
        x = Make.night(ONE_MORE, HALF_SHUT);
        Edge.refused(x, "ways() of one more", Edge.SPENT, () -> x.ways());
        x.event(4, 2, 0, 30);
        Edge.due("ways() without the one more", x.ways(), 1);
        Edge.due("many() without the one more", x.many(), 1000000000000000L);
        x.back(3);
        Edge.refused(x, "ways() of one more again", Edge.SPENT, () -> x.ways());
        Edge.due("many() stays", x.many(), 1000000000000000L);
        x.event(2, 2, 0, 30);
        Edge.due("ways() of the one more alone", x.ways(), 1);
        Edge.due("many() of the one more alone", x.many(), 1);
        Edge.of("21 SPENT: the most that there can be");
        x = Make.house("r2m30d0-1d0-1d0-1d0-1d0-1d0-1d0-1d0-1w1:*w1:*w1:*");
        Edge.refused(x, "ways() of the most", Edge.SPENT, () -> x.ways());
        x = Make.house("r6m30d0-1d1-2d2-3d3-4d4-5d5-0d0-3d1-4w1:*w2:*w1:*");
        Edge.refused(x, "ways() of six ROOMS", Edge.SPENT, () -> x.ways());
    }

    private static Edge.Call roomsCall(int r, int t) {
        return () -> x.rooms(r, t);
    }

    private static void rooms() {
        Edge.of("22: at least, at most: from none to all WALKERS");
        x = Make.house("r3m1d0-1w1:0w2:0w1:0");
        Edge.tells(x, "rooms(0, 0)", x.rooms(0, 0), 3, 3);
        Edge.tells(x, "rooms(1, 0)", x.rooms(1, 0), 0, 0);
        Edge.tells(x, "rooms(0, 1)", x.rooms(0, 1), 0, 3);
        Edge.tells(x, "rooms(1, 1)", x.rooms(1, 1), 0, 3);
        Edge.tells(x, "rooms(2, 1)", x.rooms(2, 1), 0, 0);
        x.event(2, 1, 0, 1);
        Edge.tells(x, "rooms(1, 1), SEEN", x.rooms(1, 1), 1, 3);
        Edge.tells(x, "rooms(0, 1), the other SEEN", x.rooms(0, 1), 0, 2);
        x = Make.night("r6m30w1:*w1:*w2:5", "y5/0@30y4@30");
        Edge.tells(x, "rooms(5, 30)", x.rooms(5, 30), 2, 2);
        Edge.tells(x, "rooms(4, 0)", x.rooms(4, 0), 1, 1);
        Edge.tells(x, "rooms(0, 30)", x.rooms(0, 30), 0, 0);
        Edge.of("22: without WALKERS");
        x = new CreakBoards();
        Edge.tells(x, "rooms(0, 0)", x.rooms(0, 0), 0, 0);
        Edge.tells(x, "rooms(0, 12)", x.rooms(0, 12), 0, 0);
        Edge.of("22 BAD: a ROOM that there is not; a minute that is not 0 .. LAST; ahead of NOUGHT");
        for (String night : new String[] {"", "y0@0n0@0"}) {
            x = Make.night("r3m5w1:0", night);
            for (int r : Edge.beyond(3)) Edge.refused(x, "rooms(" + r + ", 0)", Edge.BAD, roomsCall(r, 0));
            for (int t : Edge.beyond(6)) Edge.refused(x, "rooms(0, " + t + ")", Edge.BAD, roomsCall(0, t));
            x = Make.night("r6m30w1:0", night);
            for (int r : Edge.beyond(6)) Edge.refused(x, "rooms(" + r + ", 0)", Edge.BAD, roomsCall(r, 0));
            for (int t : Edge.beyond(31)) Edge.refused(x, "rooms(0, " + t + ")", Edge.BAD, roomsCall(0, t));
            x = Make.night("r1m1w1:0", night);
            for (int r : Edge.beyond(1)) Edge.refused(x, "rooms(" + r + ", 0)", Edge.BAD, roomsCall(r, 0));
            for (int t : Edge.beyond(2)) Edge.refused(x, "rooms(0, " + t + ")", Edge.BAD, roomsCall(0, t));
        }
        Edge.of("22 NOUGHT: a night that cannot be, if by its last minute alone");
        x = Make.night("r2m5w1:0", "y1@5");
        Edge.found(x, "rooms(0, 0)", Edge.NOUGHT, roomsCall(0, 0));
        Edge.found(x, "rooms(1, 5)", Edge.NOUGHT, roomsCall(1, 5));
        x.back(0);
        Edge.tells(x, "rooms(0, 5) behind back()", x.rooms(0, 5), 1, 1);
    }

    private static Edge.Call whereCall(int w, int t) {
        return () -> x.where(w, t);
    }

    private static void where() {
        Edge.of("24: ROOMS (bits) in which a WALKER may be in a minute, 0 to LAST");
        x = Make.night("r6m5d0-1d1-2d2-3d3-4d4-5w1:0w2:5w1:*", "y3/2@5");
        int[] first = {1, 3, 7, 15, 31, 63};
        int[] second = {32, 48, 48, 56, 56, 60};
        int[] third = {63, 63, 63, 62, 28, 8};
        for (int t = 0; t <= 5; t++) {
            Edge.plain(x, "where(0, " + t + ")", first[t], whereCall(0, t));
            Edge.plain(x, "where(1, " + t + ")", second[t], whereCall(1, t));
            Edge.plain(x, "where(2, " + t + ")", third[t], whereCall(2, t));
        }
        x = Make.house("r6m30w1:*w1:0w2:5");
        Edge.plain(x, "where(0, 30)", 63, whereCall(0, 30));
        Edge.plain(x, "where(1, 30)", 1, whereCall(1, 30));
        Edge.plain(x, "where(2, 30)", 32, whereCall(2, 30));
        Edge.of("24 BAD: a WALKER that there is not; a minute that is not 0 .. LAST; ahead of NOUGHT");
        for (String night : new String[] {"", "y0@0n0@0"}) {
            x = Make.night("r2m5w1:0w1:0", night);
            for (int w : Edge.beyond(2)) Edge.refused(x, "where(" + w + ", 0)", Edge.BAD, whereCall(w, 0));
            for (int t : Edge.beyond(6)) Edge.refused(x, "where(0, " + t + ")", Edge.BAD, whereCall(0, t));
            x = Make.night("r1m30w1:0w1:0w1:0", night);
            for (int w : Edge.beyond(3)) Edge.refused(x, "where(" + w + ", 0)", Edge.BAD, whereCall(w, 0));
            for (int t : Edge.beyond(31)) Edge.refused(x, "where(0, " + t + ")", Edge.BAD, whereCall(0, t));
            x = Make.night("r1", night);
            for (int w : Edge.beyond(0)) Edge.refused(x, "where(" + w + ", 0)", Edge.BAD, whereCall(w, 0));
        }
        Edge.of("24 NOUGHT");
        x = Make.night("r2m5w1:0", "y1@5");
        Edge.found(x, "where(0, 0)", Edge.NOUGHT, whereCall(0, 0));
    }

    public static void main(String[] args) {
        beginning();
        shutDoors();
        boards();
        seen();
        unlike();
        could();
        fewest();
        ways();
        rooms();
        where();
        Edge.end("EdgeWaysTest");
    }
}
