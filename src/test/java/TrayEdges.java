/** Boundary cases of the promises 25 to 30: trays, and what is counted. A test for each sentence. */
public final class TrayEdges {
    private static final int NONE = MeterDesk.NONE, UNKNOWN = MeterDesk.UNKNOWN, OUTSIDE = MeterDesk.OUTSIDE, FULL = MeterDesk.FULL;
    private static final int NULL = MeterDesk.NULL, EMPTY = MeterDesk.EMPTY, CAST = MeterDesk.CAST, ROOM = MeterDesk.ROOM;
    private static final int LEAST = Integer.MIN_VALUE, MOST = Integer.MAX_VALUE;
    /** A row of eight nodes: line i between i and i + 1. */
    private static final String ROW = "grid 8;line 0 1;line 1 2;line 2 3;line 3 4;line 4 5;line 5 6;line 6 7";

    public static void main(String[] args) {
        newTrays();
        whichTray();
        laidTags();
        laidCounts();
        laidMeters();
        laidWhat();
        laidRoom();
        layOrder();
        takenEmpty();
        takenCast();
        takenOrder();
        takenNumbers();
        allTogether();
        allOrder();
        dropped();
        countBounds();
        countLeast();
        countMost();
        countSets();
        Sentences.end(25, 30);
    }

    private static String times(String part, int n) {
        return Sentences.times(part, n);
    }

    /** Tray 0 has a tag, a count, a meter on top; tray 1 is there, with nothing; tray 2 is missing. */
    private static Case rich() {
        Case rich = new Case("line 0 1;line 1 2;flow 0;node 2;offer 2 1 3").then("put", 0, 1).then("keep", 1).then("spoil", 1);
        rich.then("tray", 0).then("lay", 0, 0, 7).then("lay", 0, 1, -5).then("lay", 0, 2, 2).then("tray", 1);
        return rich.then("seen", 1, 6).typed("node");
    }

    /** Tray 2 with some tags. */
    private static Case tags(int many) {
        Case tags = new Case("node 0").then("tray", 2);
        for (int i = 0; i < many; i++) {
            tags.then("lay", 2, 0, 90 + i);
        }
        return tags;
    }

    private static void newTrays() {
        Sentences.sentence(25, "A TRAY is a new one, with nothing: 0.");
        for (int tray = 0; tray < 3; tray++) {
            Desk desk = new Case().open();
            desk.due(NULL, "all", tray, 0).due(0, "tray", tray).due(0, "all", tray, 0).due(EMPTY, "take", tray, 0).due(1, "lay", tray, 0, 0);
            desk.due(0, "tray", tray).due(0, "all", tray, 0).due(EMPTY, "take", tray, 0).due(0, "count", 10).due(1, "lay", tray, 0, 0);
            desk.due(NULL, "all", (tray + 1) % 3, 0).due(NULL, "all", (tray + 2) % 3, 0);
        }
        // a full one, one that was dropped
        tags(8).then("tray", 2).due(1, "lay", 2, 1, 0).due(0, "count", 10);
        tags(8).then("drop", 2).then("tray", 2).due(1, "lay", 2, 1, 0).due(500000, "all", 2, 1);
        Sentences.sentence(25, "or rows of 0 to 8 things");
        for (int many = 0; many <= 8; many++) {
            tags(many).due(many, "all", 2, 0).due(many, "count", 10).due(0, "tray", 2).due(many, "drop", 2);
        }
    }

    private static void whichTray() {
        Sentences.sentence(25, "UNKNOWN (no such NODE, LINE, METER, OFFER, TRAY)");
        Case[] cases = {new Case(), rich(), tags(8)};
        int[] none = Sentences.outside(0, 2);
        for (Case some : cases) {
            some.refusedFirst(UNKNOWN, none, "tray");
        }
        rich().due(0, "tray", 0).due(0, "tray", 1).due(0, "tray", 2);
    }

    private static void laidTags() {
        Sentences.sentence(26, "TAGS (0 .. 99)");
        for (int tag : new int[] {0, 1, 98, 99}) {
            rich().due(4, "lay", 0, 0, tag);
            rich().open().due(1, "lay", 1, 0, tag).due(tag, "take", 1, 0);
        }
        rich().refusedLast(OUTSIDE, Sentences.outside(0, 99), "lay", 0, 0).refusedLast(OUTSIDE, Sentences.outside(0, 99), "lay", 2, 0);
    }

    private static void laidCounts() {
        Sentences.sentence(26, "COUNTS (-9999 .. 9999)");
        for (int count : new int[] {-9999, -9998, -1, 0, 1, 100, 9998, 9999}) {
            rich().due(4, "lay", 0, 1, count);
            rich().open().due(1, "lay", 1, 1, count).due(50000 + count, "take", 1, 1);
        }
        rich().refusedLast(OUTSIDE, Sentences.outside(-9999, 9999), "lay", 0, 1);
        rich().refusedLast(OUTSIDE, Sentences.outside(-9999, 9999), "lay", 2, 1);
    }

    private static void laidMeters() {
        Sentences.sentence(26, "UNKNOWN (the TRAY; the METER)");
        rich().refusedLast(UNKNOWN, Sentences.outside(0, 2), "lay", 0, 2).refusedLast(UNKNOWN, Sentences.outside(0, 2), "lay", 2, 2);
        for (int meter = 0; meter < 3; meter++) {
            rich().open().due(1, "lay", 1, 2, meter).due(meter, "take", 1, 2);
        }
        new Case().then("tray", 0).refusedLast(UNKNOWN, Sentences.outside(0, -1), "lay", 0, 2);
        Case nine = new Case(times("node 0", 9)).then("tray", 0);
        nine.refusedLast(UNKNOWN, Sentences.outside(0, 8), "lay", 0, 2).open().due(1, "lay", 0, 2, 8).due(256, "all", 0, 2).due(8, "take", 0, 2);
        // one that was put in can be laid, and when that is undone no more
        Case put = new Case("node 0").then("tray", 0).refused(UNKNOWN, "lay", 0, 2, 1).then("put", 2, 0).due(1, "lay", 0, 2, 1);
        put.then("undo").refused(UNKNOWN, "lay", 0, 2, 1);
        rich().refusedFirst(UNKNOWN, Sentences.outside(0, 2), "lay", 0, 0).refusedFirst(UNKNOWN, Sentences.outside(0, 2), "lay", 2, 0);
    }

    private static void laidWhat() {
        Sentences.sentence(26, "OUTSIDE (what; the TAG, the COUNT)");
        for (int what : Sentences.outside(0, 2)) {
            rich().refused(OUTSIDE, "lay", 0, what, 0).refused(OUTSIDE, "lay", 2, what, 0).refused(OUTSIDE, "lay", 1, what, MOST);
        }
    }

    private static void laidRoom() {
        Sentences.sentence(26, "ROOM -14 (there would be more than 8)");
        Desk desk = new Case("node 0").then("tray", 1).open();
        for (int many = 1; many <= 8; many++) {
            desk.due(many, "lay", 1, many % 3, 0);
        }
        desk.due(ROOM, "lay", 1, 0, 0).due(ROOM, "lay", 1, 1, 0).due(ROOM, "lay", 1, 2, 0).due(8, "count", 10);
        desk.due(0, "take", 1, 2).due(8, "lay", 1, 0, 5).due(ROOM, "lay", 1, 0, 5);
        tags(7).due(8, "lay", 2, 1, 9999);
        tags(8).refused(ROOM, "lay", 2, 0, 0).refused(ROOM, "lay", 2, 0, 99).refused(ROOM, "lay", 2, 1, -9999).refused(ROOM, "lay", 2, 2, 0);
        // each tray has its own room
        tags(8).then("tray", 0).then("tray", 1).due(1, "lay", 0, 0, 0).due(1, "lay", 1, 0, 0);
    }

    private static void layOrder() {
        Sentences.sentence(26, "UNKNOWN (the TRAY; the METER); OUTSIDE (what; the TAG, the COUNT); NULL; ROOM.");
        Case[] cases = {rich(), tags(8), new Case("node 0")};
        for (Case some : cases) {
            for (int tray : new int[] {-1, 3, LEAST, MOST}) {
                some.refused(UNKNOWN, "lay", tray, 3, 0).refused(UNKNOWN, "lay", tray, -1, 0).refused(UNKNOWN, "lay", tray, 0, 100);
                some.refused(UNKNOWN, "lay", tray, 1, 10000).refused(UNKNOWN, "lay", tray, 2, 9).refused(UNKNOWN, "lay", tray, MOST, LEAST);
            }
            // full, missing or empty: what is asked of it is looked at first
            for (int tray = 0; tray < 3; tray++) {
                some.refused(UNKNOWN, "lay", tray, 2, 9).refused(UNKNOWN, "lay", tray, 2, -1);
                some.refused(OUTSIDE, "lay", tray, 3, 0).refused(OUTSIDE, "lay", tray, 0, 100).refused(OUTSIDE, "lay", tray, 1, -10000);
            }
        }
        rich().refused(NULL, "lay", 2, 0, 0).refused(NULL, "lay", 2, 1, 0).refused(NULL, "lay", 2, 2, 0);
        tags(8).refused(NULL, "lay", 0, 0, 99).refused(NULL, "lay", 1, 1, 9999);
    }

    private static void takenEmpty() {
        Sentences.sentence(27, "EMPTY -12 (it has nothing)");
        for (int what = 0; what < 3; what++) {
            rich().refused(EMPTY, "take", 1, what).refused(NULL, "take", 2, what);
            tags(1).then("take", 2, 0).refused(EMPTY, "take", 2, what);
            tags(8).then("tray", 2).refused(EMPTY, "take", 2, what);
            tags(8).then("drop", 2).refused(NULL, "take", 2, what);
        }
        Desk desk = tags(8).open();
        for (int left = 7; left >= 0; left--) {
            desk.due(90 + left, "take", 2, 0).due(left, "all", 2, 0);
        }
        desk.due(EMPTY, "take", 2, 0).due(0, "all", 2, 0).due(1, "lay", 2, 0, 3).due(3, "take", 2, 0);
    }

    private static void takenCast() {
        Sentences.sentence(27, "CAST -13 (another sort of thing is there)");
        rich().refused(CAST, "take", 0, 0).refused(CAST, "take", 0, 1).due(2, "take", 0, 2);
        rich().then("take", 0, 2).refused(CAST, "take", 0, 0).refused(CAST, "take", 0, 2).due(49995, "take", 0, 1);
        Case tag = rich().then("take", 0, 2).then("take", 0, 1);
        tag.refused(CAST, "take", 0, 1).refused(CAST, "take", 0, 2).due(7, "take", 0, 0);
        // the same number as another sort of thing
        for (int laid = 0; laid < 3; laid++) {
            for (int taken = 0; taken < 3; taken++) {
                Case one = new Case("node 0").then("tray", 0).then("lay", 0, laid, 0);
                if (laid == taken) {
                    one.due(taken == 1 ? 50000 : 0, "take", 0, taken);
                } else {
                    one.refused(CAST, "take", 0, taken);
                }
            }
        }
        // what is on top is looked at, not what lies below
        tags(7).then("lay", 2, 1, 0).refused(CAST, "take", 2, 0).due(50000, "take", 2, 1);
    }

    private static void takenOrder() {
        Sentences.sentence(27, "UNKNOWN; OUTSIDE; NULL; EMPTY; CAST.");
        Case[] cases = {new Case(), rich(), tags(8)};
        for (Case some : cases) {
            for (int what : new int[] {0, 2, -1, 3, LEAST, MOST}) {
                some.refusedFirst(UNKNOWN, Sentences.outside(0, 2), "take", what);
            }
            for (int tray = 0; tray < 3; tray++) {
                some.refusedLast(OUTSIDE, Sentences.outside(0, 2), "take", tray);
            }
        }
    }

    private static void takenNumbers() {
        Sentences.sentence(27, "(of a METER its number as it was laid)");
        Case undone = new Case("node 0").then("put", 2, 0).then("tray", 0).then("lay", 0, 2, 1).then("undo");
        undone.due(1, "count", 2).due(1, "take", 0, 2).due(2, "all", 0, 2);
        rich().then("back", 1).due(2, "take", 0, 2);
        new Case(times("node 0", 9)).then("spoil", 8).then("tray", 0).then("lay", 0, 2, 8).due(8, "take", 0, 2);
        Sentences.sentence(27, "A COUNT v is answered as v and 50000.");
        for (int count : new int[] {-9999, -1, 0, 1, 9999}) {
            tags(0).then("lay", 2, 1, count).due(count + 50000, "take", 2, 1);
        }
    }

    private static void allTogether() {
        Sentences.sentence(28, "All of a TRAY: how many TAGS (what 0), all COUNTS together and 500000 more (1), METERS (2, bits, by their numbers).");
        tags(0).quiet(0, "all", 2, 0).quiet(500000, "all", 2, 1).quiet(0, "all", 2, 2);
        tags(8).quiet(8, "all", 2, 0).quiet(500000, "all", 2, 1).quiet(0, "all", 2, 2);
        for (int count : new int[] {-9999, 9999}) {
            Case counts = tags(0);
            for (int many = 1; many <= 8; many++) {
                counts.then("lay", 2, 1, count).due(500000 + many * count, "all", 2, 1).due(0, "all", 2, 0).due(0, "all", 2, 2);
            }
        }
        Case meters = new Case(times("node 0", 9)).then("tray", 0);
        int set = 0;
        for (int many = 1; many <= 8; many++) {
            set |= 1 << 9 - many;
            meters.then("lay", 0, 2, 9 - many).due(set, "all", 0, 2).due(0, "all", 0, 0).due(500000, "all", 0, 1);
        }
        Case twice = new Case("node 0").then("tray", 1).then("lay", 1, 2, 0).then("lay", 1, 2, 0).then("lay", 1, 0, 0).then("lay", 1, 1, 0);
        twice.quiet(1, "all", 1, 0).quiet(500000, "all", 1, 1).quiet(1, "all", 1, 2);
        rich().quiet(1, "all", 0, 0).quiet(499995, "all", 0, 1).quiet(4, "all", 0, 2);
    }

    private static void allOrder() {
        Sentences.sentence(28, "METERS (2, bits, by their numbers). UNKNOWN; OUTSIDE; NULL.");
        Case[] cases = {new Case(), rich(), tags(8)};
        for (Case some : cases) {
            for (int what : new int[] {0, 2, -1, 3, LEAST, MOST}) {
                some.refusedFirst(UNKNOWN, Sentences.outside(0, 2), "all", what);
            }
            for (int tray = 0; tray < 3; tray++) {
                some.refusedLast(OUTSIDE, Sentences.outside(0, 2), "all", tray);
            }
        }
        for (int what = 0; what < 3; what++) {
            rich().refused(NULL, "all", 2, what);
            tags(8).then("drop", 2).refused(NULL, "all", 2, what);
        }
    }

    private static void dropped() {
        Sentences.sentence(29, "A TRAY is missing from now on: how many it had. UNKNOWN; NULL.");
        for (int many = 0; many <= 8; many++) {
            Desk desk = tags(many).open();
            desk.due(many, "drop", 2).due(NULL, "drop", 2).due(NULL, "lay", 2, 0, 0).due(NULL, "take", 2, 0).due(NULL, "all", 2, 0);
            desk.due(0, "count", 10).due(0, "tray", 2).due(0, "drop", 2);
        }
        Case[] cases = {new Case(), rich(), tags(8)};
        for (Case some : cases) {
            some.refusedFirst(UNKNOWN, Sentences.outside(0, 2), "drop");
        }
        new Case().refused(NULL, "drop", 0).refused(NULL, "drop", 1).refused(NULL, "drop", 2);
        rich().refused(NULL, "drop", 2).due(3, "drop", 0).due(0, "drop", 1);
        rich().then("drop", 1).due(3, "count", 10).due(3, "drop", 0).refused(NULL, "drop", 1);
    }

    private static void countBounds() {
        Sentences.sentence(30, "12 letters of THE TEXT, 13 how many ISLANDS. OUTSIDE.");
        Case[] cases = {new Case(), rich(), tags(8)};
        for (Case some : cases) {
            some.refusedFirst(OUTSIDE, Sentences.outside(0, 13), "count");
        }
        int[] now = {3, 2, 3, 1, 2, 2, 3, 0, 2, 1, 3, 2, 4, 1};
        for (int what = 0; what < 14; what++) {
            rich().quiet(now[what], "count", what);
        }
    }

    private static void countLeast() {
        Sentences.sentence(30, "0 NODES, 1 LINES, 2 METERS, 3 OFFERS, 4 RANK, 5 WHOLE RANK");
        int[] least = {2, 0, 0, 0, 0, 0, 0, 0, 0, 0, 0, 0, 0, 2};
        for (int what = 0; what < 14; what++) {
            new Case("grid 2").due(least[what], "count", what);
        }
        new Case("grid 2;line 0 1;node 0").due(1, "count", 13).due(1, "count", 4).due(1, "count", 5);
    }

    private static void countMost() {
        Sentences.sentence(30, "9 SEEN, 10 things of all TRAYS, 11 how many can be undone, 12 letters of THE TEXT, 13 how many ISLANDS");
        Case most = new Case(ROW + ";line 0 1;line 0 1;line 0 1;" + times("wide 3", 5), times("offer 2 0 1", 6));
        for (int i = 0; i < 4; i++) {
            most.then("put", 3, i * 2);
        }
        int[] counted = {8, 10, 9, 6, 7, 7, 127, 0, 0, 0, 0, 4, 0, 1};
        for (int what = 0; what < 14; what++) {
            if (what != 7) {
                most.due(counted[what], "count", what);
            }
        }
        Case things = new Case("line 0 1;node 0");
        for (int tray = 0; tray < 3; tray++) {
            things.then("tray", tray);
            for (int many = 0; many < 8; many++) {
                things.due(8 * tray + many, "count", 10).then("lay", tray, many % 3, 0);
            }
        }
        things.due(24, "count", 10).refused(ROOM, "lay", 0, 0, 0).then("drop", 1).due(16, "count", 10).then("take", 2, 1).due(15, "count", 10);
        Case seen = new Case();
        for (int many = 0; many <= 6; many++) {
            seen.due(many, "count", 9);
            if (many < 6) {
                seen.then("seen", 0, 0);
            }
        }
        seen.refused(FULL, "seen", 0, 0);
        for (int deeds = 0; deeds <= 12; deeds++) {
            Case done = new Case("node 0");
            for (int i = 0; i < deeds; i++) {
                done.then(i % 2 == 0 ? "spoil" : "mend", 0);
            }
            done.due(Math.min(deeds, 8), "count", 11);
        }
        for (int letters : new int[] {0, 1, 199, 200}) {
            new Case().typed("x".repeat(letters)).due(letters, "count", 12);
        }
        for (int nodes = 2; nodes <= 8; nodes++) {
            new Case("grid " + nodes).due(nodes, "count", 13).due(nodes, "count", 0);
        }
    }

    private static void countSets() {
        Sentences.sentence(30, "6 THE TREE (bits), 7 SPARE (bits), 8 BROKEN METERS (bits)");
        new Case("grid 8;" + times("line 0 1", 8) + ";line 1 2;line 2 3;flow 7;flow 8;flow 9").due(896, "count", 6).due(0, "count", 7);
        Case nine = new Case(times("node 0", 9)).due(511, "count", 7).due(0, "count", 8);
        for (int meter = 8; meter >= 0; meter--) {
            nine.then("spoil", meter).due((1 << meter) - 1, "count", 7).due(511 & ~((1 << meter) - 1), "count", 8);
        }
        new Case("line 0 1;" + times("node 0", 9)).due(510, "count", 7).due(1, "count", 6).then("cut", 0).due(511, "count", 7).due(0, "count", 6);
        new Case("line 0 1").due(NONE, "line", 0, 4).due(0, "count", 7);
    }
}
