/** Boundary cases of promises 29 to 34: whose a sound was, who was seen, where one board more would tell, PARTS of WAYS. */
public final class EdgeChanceTest {
    private static final String CANNOT = "y0@0n0@0";
    private static CreakBoards x;

    private static Edge.Call whoseCall(int e) {
        return () -> x.whose(e);
    }

    private static void dueWhose(String house, String night, int e, int may, int must) {
        x = Make.night(house, night);
        Edge.tells(x, "whose(" + e + ") of '" + house + "': '" + night + "'", x.whose(e), may, must);
    }

    private static void whose() {
        Edge.of("29: who may have passed the DOOR of a SOUND then, who must: one, some, all");
        dueWhose("r2m1D0-1w1:0", "s0@0", 0, 1, 1);
        dueWhose("r3m1D0-1w1:2w1:0", "s0@0", 0, 2, 2);
        dueWhose("r3m1D0-1w1:2w1:2w2:1", "s0@0", 0, 4, 4);
        dueWhose("r2m1D0-1w1:0w1:1", "s0@0", 0, 3, 0);
        dueWhose("r2m1D0-1w1:0w1:1w2:*", "s0@0", 0, 7, 0);
        dueWhose("r2m1D0-1w1:0w1:0w1:0", "s0@0y1/0@1y1/1@1y1/2@1", 0, 7, 7);
        dueWhose("r2m1D0-1w1:0w1:0w1:0", "s0@0y1/0@1y1/1@1", 0, 7, 3);
        dueWhose("r2m1D0-1w1:0w1:0w1:0", "s0@0y1/0@1y0/1@1", 0, 5, 1);
        Edge.of("29: that DOOR, not another one between the same ROOMS");
        dueWhose("r2m1D0-1d0-1w1:0w1:0", "s0@0y1/0@1y1/1@1", 0, 3, 0);
        dueWhose("r2m1D0-1D0-1w1:0w1:0", "s1@0s0@0", 0, 3, 0);
        dueWhose("r3m1D0-1D0-2w1:0w1:0", "s1@0s0@0y2/1@1", 0, 2, 2);
        dueWhose("r3m1D0-1D0-2w1:0w1:0", "s1@0s0@0y2/1@1", 1, 1, 1);
        Edge.of("29: then, not in another minute: minute 0, LAST less 1");
        dueWhose("r2m3D0-1w1:0w1:0", "s0@0s0@2y1/0@1", 0, 3, 1);
        dueWhose("r2m3D0-1w1:0w1:0", "s0@0s0@2y1/0@1y0/1@2", 1, 3, 0);
        dueWhose("r2m3D0-1w1:0w1:0", "s0@0s0@2y0/0@2y1/0@3", 1, 3, 1);
        dueWhose("r2m30D0-1w2:0w2:0", "s0@28s0@29", 0, 3, 0);
        dueWhose("r2m30D0-1w2:0w2:0", "s0@28s0@29y1/1@29", 0, 2, 2);
        dueWhose("r2m30D0-1w2:0w2:0", "s0@28s0@29y1/1@29", 1, 1, 1);
        Edge.of("29: of the NIGHT that there is now");
        x = Make.night("r2m2D0-1w1:0w1:0w1:0", "s0@0s0@1");
        Edge.tells(x, "whose(0)", x.whose(0), 7, 0);
        x.event(3, 0, 1, 1);
        Edge.tells(x, "whose(0) behind THIS", x.whose(0), 5, 0);
        x.event(3, 0, 2, 1);
        Edge.tells(x, "whose(0) behind another THIS", x.whose(0), 1, 1);
        x.back(3);
        Edge.tells(x, "whose(0) behind back()", x.whose(0), 5, 0);
        Edge.of("29: of the last of 24 EVENTS, and of one told twice");
        x = Make.house("r2m30D0-1w1:0w2:0");
        for (int e = 0; e < 22; e++) x.event(4, 1, 0, 3);
        x.event(1, 0, 0, 29);
        x.event(1, 0, 0, 29);
        Edge.tells(x, "whose(22)", x.whose(22), 3, 0);
        Edge.tells(x, "whose(23)", x.whose(23), 3, 0);
        Edge.of("29 UNLIKE: no SOUND (each other KIND); ahead of NOUGHT");
        for (String night : new String[] {"", CANNOT}) {
            x = Make.night("r2m5D0-1w1:0", "y0@0y0/0@0n1@0x0@0-0" + night);
            for (int e = 0; e < 4; e++) Edge.found(x, "whose(" + e + ")", Edge.UNLIKE, whoseCall(e));
        }
        Edge.of("29 BAD: an EVENT that there is not; ahead of NOUGHT");
        for (String night : new String[] {"", CANNOT}) {
            x = Make.night("r2m5D0-1w1:0", "s0@0" + night);
            for (int e : Edge.beyond(x.count(4))) Edge.refused(x, "whose(" + e + ")", Edge.BAD, whoseCall(e));
        }
        x = new CreakBoards();
        Edge.refused(x, "whose(0) of no EVENT", Edge.BAD, whoseCall(0));
        Edge.of("29 NOUGHT");
        x = Make.night("r2m5D0-1w1:0", "s0@0y0@1");
        Edge.found(x, "whose(0)", Edge.NOUGHT, whoseCall(0));
        x = Make.night("r2m5D0-1", "s0@0");
        Edge.found(x, "whose(0) of nobody", Edge.NOUGHT, whoseCall(0));
    }

    private static Edge.Call sameCall(int e) {
        return () -> x.same(e);
    }

    private static void dueSame(String house, String night, int e, int may, int must) {
        x = Make.night(house, night);
        Edge.tells(x, "same(" + e + ") of '" + house + "': '" + night + "'", x.same(e), may, must);
    }

    private static void same() {
        Edge.of("30: who may be in the ROOM of a SEEN EVENT then, who must: one, some, all");
        dueSame("r2m1w1:0", "y0@0", 0, 1, 1);
        dueSame("r3m1d0-1w1:2w1:0", "y1@1", 0, 2, 2);
        dueSame("r3m1d0-1w1:2w1:2w2:1", "y0@1", 0, 4, 4);
        dueSame("r2m1d0-1w1:0w1:1", "y1@1", 0, 3, 0);
        dueSame("r1m1w1:0w1:0w1:0", "y0@1", 0, 7, 7);
        dueSame("r2m30d0-1w1:0w1:0w1:0", "y1@30", 0, 7, 0);
        Edge.of("30: in minute 0, in LAST, in that one alone");
        dueSame("r2m5d0-1w1:0w1:1w1:*", "y0@0y0@5", 0, 5, 1);
        dueSame("r2m5d0-1w1:0w1:1w1:*", "y0@0y0@5", 1, 7, 0);
        dueSame("r2m5d0-1w1:0w1:1w1:*", "y0@0y0@5x0@0-4", 1, 5, 1);
        Edge.of("30: THIS, too: that WALKER must");
        dueSame("r2m5d0-1w1:0w1:1w1:*", "y0/2@5", 0, 7, 4);
        dueSame("r2m5d0-1w1:0w1:1w1:*", "y0/2@5x0@0-4", 0, 5, 5);
        dueSame("r2m5d0-1w1:0w1:1w1:*", "y1/2@0", 0, 6, 6);
        Edge.of("30: of the last of 24 EVENTS");
        x = Make.house("r2m30d0-1w1:0w2:0");
        for (int e = 0; e < 23; e++) x.event(4, 1, 0, 29);
        x.event(2, 1, 0, 30);
        Edge.tells(x, "same(23)", x.same(23), 3, 0);
        Edge.of("30 UNLIKE: SOUND, BARE, SHUT; ahead of NOUGHT");
        for (String night : new String[] {"", CANNOT}) {
            x = Make.night("r2m5D0-1w1:0", "s0@2n1@0x0@0-0" + night);
            for (int e = 0; e < 3; e++) Edge.found(x, "same(" + e + ")", Edge.UNLIKE, sameCall(e));
        }
        Edge.of("30 BAD: an EVENT that there is not; ahead of NOUGHT");
        for (String night : new String[] {"", CANNOT}) {
            x = Make.night("r2m5D0-1w1:0", "y0@0" + night);
            for (int e : Edge.beyond(x.count(4))) Edge.refused(x, "same(" + e + ")", Edge.BAD, sameCall(e));
        }
        x = new CreakBoards();
        Edge.refused(x, "same(0) of no EVENT", Edge.BAD, sameCall(0));
        Edge.of("30 NOUGHT");
        x = Make.night("r2m5w1:0", "y0@0y1/0@5");
        for (int e = 0; e < 2; e++) Edge.found(x, "same(" + e + ")", Edge.NOUGHT, sameCall(e));
        x = Make.night("r2m5", "y0@0");
        Edge.found(x, "same(0) of nobody", Edge.NOUGHT, sameCall(0));
    }

    private static Edge.Call passesCall(int d) {
        return () -> x.passes(d);
    }

    private static void duePasses(String house, String night, int d, int may, int must) {
        x = Make.night(house, night);
        Edge.tells(x, "passes(" + d + ") of '" + house + "': '" + night + "'", x.passes(d), may, must);
    }

    private static void passes() {
        Edge.of("31: in how many minutes somebody may, must pass: 0 to all (LAST)");
        for (int last : new int[] {1, 2, 29, 30}) {
            duePasses("r2m" + last + "d0-1w1:0", "", 0, last, 0);
            duePasses("r2m" + last + "d0-1w2:0", "", 0, last, 0);
            duePasses("r2m" + last + "D0-1w1:0", "", 0, 0, 0);
            duePasses("r2m" + last + "d0-1", "", 0, 0, 0);
            duePasses("r2m" + last + "d0-1w1:0", "x0@0-" + (last - 1), 0, 0, 0);
            duePasses("r3m" + last + "d0-1w1:2", "", 0, 0, 0);
            x = Make.house("r2m" + last + "D0-1w1:0");
            for (int t = 0; t < last && t < 24; t++) x.event(1, 0, 0, t);
            Edge.tells(x, "passes(0), all heard, of " + last, x.passes(0), Math.min(last, 24), Math.min(last, 24));
        }
        duePasses("r2m4d0-1w1:0", "y1@1y0@2y1@3y0@4", 0, 4, 4);
        duePasses("r2m4d0-1w1:0", "y1@1y0@2y1@4", 0, 4, 2);
        Edge.of("31: somebody, this one or that one");
        duePasses("r2m1D0-1w1:0w1:0", "s0@0", 0, 1, 1);
        duePasses("r2m1d0-1w1:0w1:0", "y1@1", 0, 1, 1);
        duePasses("r2m2d0-1w1:0w1:1", "n0@1n1@2", 0, 2, 2);
        Edge.of("31: that DOOR alone");
        duePasses("r2m1d0-1d0-1w1:0", "y1@1", 0, 1, 0);
        duePasses("r2m1d0-1d0-1w1:0", "y1@1x0@0-0", 1, 1, 1);
        duePasses("r3m2d0-1d1-2w1:0", "", 1, 1, 0);
        duePasses("r6m30d0-1D1-2d2-3d3-4d4-5d0-5d1-4D2-5w1:*w1:*w1:*", "", 7, 0, 0);
        duePasses("r6m30d0-1D1-2d2-3d3-4d4-5d0-5d1-4D2-5w1:*w1:*w1:*", "s7@29", 7, 1, 1);
        duePasses("r6m30d0-1D1-2d2-3d3-4d4-5d0-5d1-4D2-5w1:*w1:*w1:*", "", 6, 30, 0);
        Edge.of("31 BAD: a DOOR that there is not; ahead of NOUGHT");
        for (String night : new String[] {"", CANNOT}) {
            x = Make.night("r2d0-1D0-1w1:0", night);
            for (int d : Edge.beyond(2)) Edge.refused(x, "passes(" + d + ")", Edge.BAD, passesCall(d));
            x = Make.night("r2d0-1d0-1d0-1d0-1d0-1d0-1d0-1d0-1w1:0", night);
            for (int d : Edge.beyond(8)) Edge.refused(x, "passes(" + d + ")", Edge.BAD, passesCall(d));
            x = Make.night("r2w1:0", night);
            for (int d : Edge.beyond(0)) Edge.refused(x, "passes(" + d + ")", Edge.BAD, passesCall(d));
        }
        Edge.of("31 NOUGHT");
        x = Make.night("r2m5d0-1w1:0", "y1@5x0@0-4");
        Edge.found(x, "passes(0)", Edge.NOUGHT, passesCall(0));
    }

    private static void dueThird(String house, String night, int want, int many) {
        x = Make.night(house, night);
        Edge.tells(x, "third() of '" + house + "': '" + night + "'", x.third(), want, many);
    }

    private static void third() {
        Edge.of("32: the DOOR without a BOARD passed in most minutes in which it need not be; how many");
        dueThird("r2m5d0-1w1:0", "", 0, 5);
        dueThird("r2m30D0-1d0-1w1:0", "", 1, 30);
        dueThird("r2m5d0-1d0-1w1:0", "x0@0-0", 1, 5);
        dueThird("r2m5d0-1d0-1w1:0", "x1@4-4", 0, 5);
        dueThird("r6m30d0-1D1-2d2-3d3-4d4-5d0-5d1-4D2-5w1:*", "x0@0-29x2@0-28x3@0-29x4@0-29x5@0-29x6@0-29", 2, 1);
        Edge.of("32: MAY less MUST");
        dueThird("r4m4d0-1d2-3w1:0w1:2", "y1/0@1y0/0@2y1/0@3y0/0@4x1@0-2", 1, 1);
        dueThird("r4m4d0-1d2-3w1:0w1:2", "y1/0@1y0/0@2y1/0@3y0/0@4x1@0-3", 0, 0);
        Edge.of("32: of alike ones the first");
        dueThird("r2m5d0-1d0-1d0-1w1:0", "", 0, 5);
        dueThird("r2m5D0-1d0-1d0-1w1:0", "", 1, 5);
        dueThird("r2m5d0-1d0-1d0-1w1:0", "x0@0-0", 1, 5);
        dueThird("r2m5d0-1d0-1", "", 0, 0);
        dueThird("r3m5D0-2d0-1d1-0w1:2", "", 1, 0);
        Edge.of("31, 32: of a longer night ahead nothing is left");
        x = Make.night("r2m30d0-1D0-1w1:0", "y0@5y1@6s1@7");
        Edge.tells(x, "passes(0)", x.passes(0), 29, 1);
        Edge.tells(x, "third()", x.third(), 0, 28);
        Make.text(x, 1, "r2m5d0-1D0-1w1:0");
        x.house(1);
        Edge.tells(x, "passes(0) of 5", x.passes(0), 5, 0);
        Edge.tells(x, "passes(1) of 5", x.passes(1), 0, 0);
        Edge.tells(x, "third() of 5", x.third(), 0, 5);
        Edge.of("32 NONE: no DOOR without one: no DOOR, or all with BOARDS; asked() stays");
        for (String house : new String[] {"r2m5w1:0", "r2m5D0-1w1:0", "r6D0-1D0-1D0-1D0-1D0-1D0-1D0-1D0-1w1:0"}) {
            x = Make.house(house);
            x.walker(0, 0);
            Edge.refused(x, "third() of '" + house + "'", Edge.NONE, () -> x.third());
        }
        x = new CreakBoards();
        Edge.refused(x, "third() without a HOUSE", Edge.NONE, () -> x.third());
        Edge.of("32 NOUGHT: ahead of NONE");
        for (String house : new String[] {"r2m5w1:0", "r2m5D0-1w1:0", "r2m5d0-1w1:0", "r1m1"}) {
            x = Make.night(house, CANNOT);
            Edge.found(x, "third() of '" + house + "'", Edge.NOUGHT, () -> x.third());
        }
    }

    private static Edge.Call chanceCall(int r, int t) {
        return () -> x.chance(r, t);
    }

    private static Edge.Call likelyCall(int w, int t) {
        return () -> x.likely(w, t);
    }

    private static void duePart(String call, int got, int want, long upper, long lower) {
        Edge.due(call, got, want);
        Edge.due(call + " upper()", x.upper(), upper);
        Edge.due(call + " lower()", x.lower(), lower);
    }

    private static void dueChance(String house, String night, int r, int t, long upper, long lower) {
        x = Make.night(house, night);
        x.at(0, 0);
        Edge.plain(x, "chance(" + r + ", " + t + ") of '" + house + "': '" + night + "'", 1, chanceCall(r, t));
        duePart("chance(" + r + ", " + t + ") of '" + house + "': '" + night + "'", x.chance(r, t), 1, upper, lower);
    }

    private static final String JUST = "r3m30d0-1d0-1d0-1d0-1w1:0", ONE_MORE = "r3m30d0-1d0-1d0-1d0-1w1:02",
        HALF_SHUT = "x0@15-29x1@15-29x2@15-29";

    private static void chance() {
        Edge.of("33: none of the WAYS (0 by 1), all of them (1 by 1)");
        dueChance("r2m5", "", 0, 0, 0, 1);
        dueChance("r2m5d0-1w1:0", "", 1, 0, 0, 1);
        dueChance("r2m5d0-1w1:0", "", 0, 0, 1, 1);
        dueChance("r1m30w1:0w2:0w2:*", "", 0, 30, 1, 1);
        dueChance("r6m30w1:5", "", 5, 30, 1, 1);
        dueChance("r6m30w1:5", "", 4, 30, 0, 1);
        x = new CreakBoards();
        duePart("chance(0, 12) without a HOUSE", x.chance(0, 12), 1, 0, 1);
        Edge.of("33: in lowest terms");
        dueChance("r2m2d0-1w1:0", "", 1, 2, 1, 2);
        dueChance("r2m3d0-1d0-1w1:0", "", 1, 1, 2, 3);
        dueChance("r4m1w1:*", "", 3, 0, 1, 4);
        dueChance("r4m1w1:*w1:*", "", 3, 0, 7, 16);
        dueChance("r6m1w1:*w1:*w1:*", "", 5, 1, 91, 216);
        dueChance("r6m1w1:013w1:02w1:5", "", 0, 1, 2, 3);
        Edge.of("33: all WAYS alike likely, by what all EVENTS tell");
        dueChance("r2m2d0-1d0-1w1:0", "y1@2", 1, 1, 1, 2);
        dueChance("r2m2d0-1d0-1w1:0", "y0@2", 1, 1, 4, 5);
        dueChance("r2m2d0-1d0-1w2:0", "", 1, 1, 2, 5);
        dueChance("r2m1D0-1w1:0w1:0", "s0@0", 0, 1, 2, 3);
        dueChance("r2m1D0-1w1:0w1:0", "s0@0", 1, 1, 1, 1);
        Edge.of("33: somebody: of two in one ROOM once");
        dueChance("r2m1d0-1w1:0w1:0", "", 1, 1, 3, 4);
        dueChance("r2m1d0-1w1:0w1:0w1:0", "", 1, 1, 7, 8);
        Edge.of("33: 1000000000000000 WAYS are not SPENT");
        dueChance(JUST, HALF_SHUT, 0, 0, 1, 1);
        dueChance(JUST, HALF_SHUT, 1, 1, 4, 5);
        dueChance(JUST, HALF_SHUT, 1, 15, 15265963516L, 30517578125L);
        dueChance(JUST, HALF_SHUT, 0, 15, 15251614609L, 30517578125L);
        dueChance(JUST, HALF_SHUT, 1, 30, 1, 2);
        dueChance(JUST, HALF_SHUT, 2, 30, 0, 1);
        Edge.of("33 SPENT: one more; the fraction stays");
        x = Make.night(ONE_MORE, HALF_SHUT + "y2@0");
        duePart("chance(2, 30) of the one alone", x.chance(2, 30), 1, 1, 1);
        x.back(3);
        for (int t = 0; t <= 30; t++) Edge.refused(x, "chance(0, " + t + ") of one more", Edge.SPENT, chanceCall(0, t));
        Edge.refused(x, "chance(2, 30) of one more", Edge.SPENT, chanceCall(2, 30));
        x = Make.house("r6m30d0-1d1-2d2-3d3-4d4-5d5-0d0-3d1-4w1:*w1:*w1:*");
        for (int t = 0; t <= 30; t++) Edge.refused(x, "chance(5, " + t + ") of the most", Edge.SPENT, chanceCall(5, t));
        Edge.of("33 SPENT: all WAYS by one ROOM in the midst");
        x = Make.night("r2m30" + "d0-1".repeat(8) + "w1:0", "y0@15");
        for (int t : new int[] {0, 14, 15, 16, 30}) Edge.refused(x, "chance(0, " + t + ")", Edge.SPENT, chanceCall(0, t));
        for (int t : new int[] {0, 14, 15, 16, 30}) Edge.refused(x, "likely(0, " + t + ")", Edge.SPENT, likelyCall(0, t));
        Edge.of("33 BAD: a ROOM that there is not; a minute that is not 0 .. LAST; ahead of SPENT, NOUGHT");
        for (String night : new String[] {"", CANNOT}) {
            x = Make.night("r2m30d0-1w1:0w1:0", night);
            for (int r : Edge.beyond(2)) Edge.refused(x, "chance(" + r + ", 0)", Edge.BAD, chanceCall(r, 0));
            for (int t : Edge.beyond(31)) Edge.refused(x, "chance(0, " + t + ")", Edge.BAD, chanceCall(0, t));
            x = Make.night("r6m1w1:0", night);
            for (int r : Edge.beyond(6)) Edge.refused(x, "chance(" + r + ", 0)", Edge.BAD, chanceCall(r, 0));
            for (int t : Edge.beyond(2)) Edge.refused(x, "chance(0, " + t + ")", Edge.BAD, chanceCall(0, t));
        }
        Edge.of("33 NOUGHT: the fraction stays");
        x = Make.house("r2m5d0-1w1:0");
        x.chance(1, 5);
        x.event(2, 1, 0, 0);
        Edge.found(x, "chance(0, 0)", Edge.NOUGHT, chanceCall(0, 0));
        Edge.found(x, "chance(1, 5)", Edge.NOUGHT, chanceCall(1, 5));
        Edge.due("upper()", x.upper(), 1);
        Edge.due("lower()", x.lower(), 2);
    }

    private static void dueLikely(String house, String night, int w, int t, int room, long upper, long lower) {
        x = Make.night(house, night);
        Edge.plain(x, "likely(" + w + ", " + t + ") of '" + house + "': '" + night + "'", room, likelyCall(w, t));
        duePart("likely(" + w + ", " + t + ") of '" + house + "': '" + night + "'", x.likely(w, t), room, upper, lower);
    }

    private static void likely() {
        Edge.of("34: the ROOM in which he is in most WAYS, and that PART");
        dueLikely("r1m1w1:0", "", 0, 1, 0, 1, 1);
        dueLikely("r6m30w1:0w1:3w1:5", "", 2, 30, 5, 1, 1);
        dueLikely("r6m30w1:0w1:3w1:5", "", 1, 0, 3, 1, 1);
        dueLikely("r2m1d0-1d0-1w1:0", "", 0, 1, 1, 2, 3);
        dueLikely("r2m1d0-1d0-1w2:0", "", 0, 0, 0, 1, 1);
        dueLikely("r2m2d0-1d0-1w2:0", "", 0, 2, 1, 4, 5);
        dueLikely("r3m1d0-1d1-2w1:*", "", 0, 1, 1, 3, 7);
        dueLikely("r3m1d0-1d1-2w1:*", "", 0, 0, 1, 3, 7);
        Edge.of("34: of alike ones the least");
        dueLikely("r2m1d0-1w1:0", "", 0, 1, 0, 1, 2);
        dueLikely("r2m1d0-1w1:1", "", 0, 1, 0, 1, 2);
        dueLikely("r6m30w1:*", "", 0, 30, 0, 1, 6);
        dueLikely("r6m30w1:345", "", 0, 30, 3, 1, 3);
        dueLikely("r6m5d4-5w1:*", "n0@0", 0, 0, 4, 32, 67);
        Edge.of("34: of that WALKER, by what all EVENTS tell");
        dueLikely("r2m1D0-1w1:0w1:0", "s0@0", 1, 1, 1, 2, 3);
        dueLikely("r2m1D0-1w1:0w1:0", "s0@0y0/1@1", 1, 1, 0, 1, 1);
        Edge.of("34: 1000000000000000 WAYS are not SPENT");
        dueLikely(JUST, HALF_SHUT, 0, 1, 1, 4, 5);
        dueLikely(JUST, HALF_SHUT, 0, 15, 1, 15265963516L, 30517578125L);
        dueLikely(JUST, HALF_SHUT, 0, 30, 0, 1, 2);
        Edge.of("34 SPENT: one more; the fraction stays");
        x = Make.night(ONE_MORE, HALF_SHUT);
        for (int t = 0; t <= 30; t++) Edge.refused(x, "likely(0, " + t + ") of one more", Edge.SPENT, likelyCall(0, t));
        x = Make.house("r2m30d0-1d0-1d0-1d0-1d0-1d0-1d0-1d0-1w1:*w1:*w1:*");
        for (int t = 0; t <= 30; t++) Edge.refused(x, "likely(2, " + t + ") of the most", Edge.SPENT, likelyCall(2, t));
        Edge.of("34 BAD: a WALKER that there is not; a minute that is not 0 .. LAST; ahead of SPENT, NOUGHT");
        for (String night : new String[] {"", CANNOT}) {
            x = Make.night("r2m30d0-1w1:0w1:0", night);
            for (int w : Edge.beyond(2)) Edge.refused(x, "likely(" + w + ", 0)", Edge.BAD, likelyCall(w, 0));
            for (int t : Edge.beyond(31)) Edge.refused(x, "likely(0, " + t + ")", Edge.BAD, likelyCall(0, t));
            x = Make.night("r2m1", night);
            Edge.refused(x, "likely(0, 0) of nobody", Edge.BAD, likelyCall(0, 0));
        }
        Edge.of("34 NOUGHT: the fraction stays");
        x = Make.house("r2m5d0-1d0-1w1:0");
        x.likely(0, 1);
        x.event(2, 1, 0, 0);
        Edge.found(x, "likely(0, 0)", Edge.NOUGHT, likelyCall(0, 0));
        Edge.due("upper()", x.upper(), 2);
        Edge.due("lower()", x.lower(), 3);
    }

    public static void main(String[] args) {
        whose();
        same();
        passes();
        third();
        chance();
        likely();
        Edge.end("EdgeChanceTest");
    }
}
