/** Boundary cases of the promises 9 to 15: what is done, undone, kept. A test for each sentence. */
public final class DeedEdges {
    private static final int UNKNOWN = MeterDesk.UNKNOWN, OUTSIDE = MeterDesk.OUTSIDE, NOT = MeterDesk.NOT, FULL = MeterDesk.FULL;
    private static final int LEAST = Integer.MIN_VALUE, MOST = Integer.MAX_VALUE;
    /** A row of eight nodes: line i between i and i + 1. */
    private static final String ROW = "grid 8;line 0 1;line 1 2;line 2 3;line 3 4;line 4 5;line 5 6;line 6 7";

    public static void main(String[] args) {
        putNumbers();
        putPlaces();
        putSorts();
        putFull();
        spoiled();
        mended();
        cutLines();
        ranksThen();
        undone();
        lastEight();
        undoneFully();
        keptPlaces();
        keptAsNow();
        backPlaces();
        backAsKept();
        keptSinceText();
        Sentences.end(9, 15);
    }

    private static String times(String part, int n) {
        return Sentences.times(part, n);
    }

    /** Something of everything. */
    private static Case rich() {
        Case rich = new Case("grid 5;line 0 1;line 1 2;line 2 1;line 2 3;line 3 4;flow 0;pair 1;wide 3;offer 2 4 3");
        rich.then("keep", 0).then("put", 2, 4).then("spoil", 0).then("cut", 1).then("keep", 1).then("mend", 0).then("spoil", 3);
        rich.then("tray", 0).then("lay", 0, 0, 7).then("lay", 0, 1, -5).then("lay", 0, 2, 1).then("tray", 1).then("seen", 1, 6);
        return rich.typed("node 0;flow x");
    }

    private static void putNumbers() {
        Sentences.sentence(9, "A METER more: its number.");
        Desk desk = new Case("grid 2;line 0 1").open();
        for (int meter = 0; meter < 9; meter++) {
            desk.due(meter, "put", 4 - meter % 5, meter % 5 == 3 || meter % 5 == 4 ? 0 : 1);
            desk.due(4 - meter % 5, "meter", meter, 0).due(meter + 1, "count", 2);
        }
        desk.due(FULL, "put", 0, 0);
        new Case(times("node 0", 8)).due(8, "put", 2, 2);
        new Case("node 0").then("put", 2, 1).then("undo").due(1, "put", 3, 2);
    }

    private static void putPlaces() {
        Sentences.sentence(9, "UNKNOWN: no such LINE, NODE");
        for (int sort = 0; sort <= 1; sort++) {
            new Case("grid 8").refusedLast(UNKNOWN, Sentences.outside(0, -1), "put", sort);
            new Case("grid 8;line 0 1").refusedLast(UNKNOWN, Sentences.outside(0, 0), "put", sort);
            new Case("grid 2;" + times("line 0 1", 9)).refusedLast(UNKNOWN, Sentences.outside(0, 8), "put", sort).due(0, "put", sort, 8);
            new Case("grid 2;" + times("line 0 1", 10)).refusedLast(UNKNOWN, Sentences.outside(0, 9), "put", sort).due(0, "put", sort, 9);
            rich().refusedLast(UNKNOWN, Sentences.outside(0, 4), "put", sort).due(4, "put", sort, 0).due(4, "put", sort, 4);
            // a line that is cut is still there
            rich().due(4, "put", sort, 1);
        }
        for (int sort = 2; sort <= 4; sort++) {
            new Case().refusedLast(UNKNOWN, Sentences.outside(0, 2), "put", sort).due(0, "put", sort, 2);
            new Case("grid 2;" + times("line 0 1", 10)).refusedLast(UNKNOWN, Sentences.outside(0, 1), "put", sort).due(0, "put", sort, 1);
            new Case("grid 8").refusedLast(UNKNOWN, Sentences.outside(0, 7), "put", sort).due(0, "put", sort, 7);
            rich().refusedLast(UNKNOWN, Sentences.outside(0, 4), "put", sort).due(4, "put", sort, 0).due(4, "put", sort, 4);
        }
    }

    private static void putSorts() {
        Sentences.sentence(9, "OUTSIDE: the SORT");
        rich().refusedFirst(OUTSIDE, Sentences.outside(0, 4), "put", 0);
        rich().refusedFirst(OUTSIDE, Sentences.outside(0, 4), "put", 4);
        new Case().refusedFirst(OUTSIDE, Sentences.outside(0, 4), "put", 0);
        // without a sort there is neither a line nor a node that could be missing
        new Case().refused(OUTSIDE, "put", 5, 3).refused(OUTSIDE, "put", -1, -1).refused(OUTSIDE, "put", LEAST, MOST);
    }

    private static void putFull() {
        Sentences.sentence(9, "FULL: 9.");
        Case eight = new Case("line 0 1;" + times("node 0", 7)).then("put", 0, 0);
        eight.due(8, "put", 0, 0).due(8, "put", 4, 2);
        eight.then("put", 2, 0);
        for (int sort = 0; sort <= 4; sort++) {
            eight.refused(FULL, "put", sort, 0).refusedLast(UNKNOWN, new int[] {-1, sort < 2 ? 1 : 3, LEAST, MOST}, "put", sort);
        }
        eight.refusedFirst(OUTSIDE, Sentences.outside(0, 4), "put", 0);
        new Case(times("node 0", 9)).refused(FULL, "put", 2, 0);
        // one that is broken is still there; one that was undone is not
        eight.then("spoil", 8).refused(FULL, "put", 2, 0);
        eight.then("undo").then("undo").due(8, "put", 2, 0);
    }

    private static void spoiled() {
        Sentences.sentence(10, "A METER is BROKEN: RANK then. UNKNOWN; NOT: it is.");
        for (int meters : new int[] {0, 1, 8, 9}) {
            Case told = new Case(meters == 0 ? "line 0 1" : "line 0 1;" + times("node 1", meters));
            told.refusedFirst(UNKNOWN, Sentences.outside(0, meters - 1), "spoil");
            for (int meter = 0; meter < meters; meter++) {
                told.due(meters == 1 ? 0 : 1, "spoil", meter);
                Desk desk = told.open();
                desk.due(meters == 1 ? 0 : 1, "spoil", meter).due(NOT, "spoil", meter).due(1 << meter, "count", 8).due(1, "count", 11);
            }
        }
        rich().refused(NOT, "spoil", 3).refusedFirst(UNKNOWN, Sentences.outside(0, 3), "spoil").due(3, "count", 4);
        rich().then("spoil", 0).refused(NOT, "spoil", 0);
    }

    private static void mended() {
        Sentences.sentence(11, "A METER is not BROKEN any more: RANK then. UNKNOWN; NOT: it is not.");
        for (int meters : new int[] {0, 1, 8, 9}) {
            Case told = new Case(meters == 0 ? "line 0 1" : "line 0 1;" + times("node 1", meters));
            told.refusedFirst(UNKNOWN, Sentences.outside(0, meters - 1), "mend");
            for (int meter = 0; meter < meters; meter++) {
                told.refused(NOT, "mend", meter);
                Desk desk = told.open();
                desk.call("spoil", meter);
                desk.due(1, "mend", meter).due(NOT, "mend", meter).due(0, "count", 8).due(2, "count", 11);
            }
        }
        Case allBroken = new Case("line 0 1;" + times("node 1", 9));
        for (int meter = 0; meter < 9; meter++) {
            allBroken.then("spoil", meter);
        }
        allBroken.due(511, "count", 8).due(0, "count", 4);
        for (int meter = 0; meter < 9; meter++) {
            allBroken.due(1, "mend", meter);
        }
        rich().refused(NOT, "mend", 0).refused(NOT, "mend", 2).refusedFirst(UNKNOWN, Sentences.outside(0, 3), "mend").due(4, "mend", 3);
    }

    private static void cutLines() {
        Sentences.sentence(12, "A LINE is CUT: RANK then. UNKNOWN; NOT: it is.");
        for (int lines : new int[] {0, 1, 9, 10}) {
            Case told = new Case(lines == 0 ? "node 1" : times("line 0 1", lines) + ";node 1");
            told.refusedFirst(UNKNOWN, Sentences.outside(0, lines - 1), "cut");
            for (int line = 0; line < lines; line++) {
                Desk desk = told.open();
                desk.due(lines == 1 ? 0 : 1, "cut", line).due(NOT, "cut", line).due(1, "line", line, 2).due(1, "count", 11);
            }
            Desk all = told.open();
            for (int line = 0; line < lines; line++) {
                all.due(line == lines - 1 ? 0 : 1, "cut", line);
            }
            all.due(0, "count", 5).due(lines == 0 ? UNKNOWN : NOT, "cut", 0);
        }
        rich().refused(NOT, "cut", 1).refusedFirst(UNKNOWN, Sentences.outside(0, 4), "cut");
    }

    private static void ranksThen() {
        Sentences.sentence(12, "WHOLE RANK: n less 1, if all NODES hang together by LINES that are not CUT; else n less as many parts as there are.");
        Desk row = new Case(ROW + ";flow0;flow1;flow2;flow3;flow4;flow5;flow6").open();
        row.due(7, "count", 5).due(7, "count", 4).due(1, "count", 13);
        for (int line = 0; line < 7; line++) {
            row.due(6 - line, "cut", line).due(6 - line, "count", 5).due(line + 2, "count", 13);
        }
        new Case("grid 2").due(0, "count", 5);
        new Case("grid 2;line 0 1").due(1, "count", 5);
        new Case("grid 3;line 0 1;line 1 2;line 2 0").due(2, "count", 5).due(0, "cut", 0).then("cut", 0).due(2, "count", 5).then("cut", 1).due(1, "count", 5);
        Sentences.sentence(10, "RANK: how many LINES there are at most in one.");
        Desk broken = new Case(ROW + ";flow0;flow1;flow2;flow3;flow4;flow5;flow6").open();
        for (int meter = 6; meter >= 0; meter--) {
            broken.due(meter, "spoil", meter);
        }
        Sentences.sentence(11, "RANK: how many LINES there are at most in one.");
        for (int meter = 0; meter < 7; meter++) {
            broken.due(meter + 1, "mend", meter);
        }
    }

    private static void undone() {
        Sentences.sentence(13, "how many can be undone yet. NOT: none.");
        new Case().refused(NOT, "undo");
        new Case("line 0 1").refused(NOT, "undo");
        new Case().then("put", 2, 0).then("undo").refused(NOT, "undo");
        new Case("line 0 1").then("keep", 0).then("tray", 0).then("seen", 0, 0).refused(NOT, "undo");
        rich().then("back", 0).refused(NOT, "undo").then("cut", 0).due(0, "undo");
        Sentences.sentence(13, "The latest put(), spoil(), mend(), cut() is undone");
        Desk desk = new Case("line 0 1;node 0").open();
        desk.due(1, "put", 0, 0).due(1, "spoil", 0).due(1, "mend", 0).due(0, "cut", 0);
        desk.due(NOT, "cut", 0).due(NOT, "mend", 0).due(UNKNOWN, "spoil", 2).due(OUTSIDE, "put", 5, 0).due(4, "count", 11);
        desk.due(3, "undo").due(0, "line", 0, 2).due(1, "count", 4).due(0, "count", 8);
        desk.due(2, "undo").due(1, "count", 8).due(1, "count", 4);
        desk.due(1, "undo").due(0, "count", 8).due(2, "count", 2);
        desk.due(0, "undo").due(1, "count", 2).due(NOT, "undo");
        // what is undone is one deed: others of its kind stay
        Case broken = new Case("line 0 1;line 0 1;" + times("node 0", 9)).then("spoil", 0).then("spoil", 8);
        broken.open().due(1, "mend", 8).due(1, "count", 8).due(2, "undo").due(257, "count", 8).due(1, "undo").due(1, "count", 8);
        broken.open().due(1, "mend", 0).due(256, "count", 8).due(2, "undo").due(257, "count", 8);
        broken.open().due(1, "cut", 0).due(0, "cut", 1).due(3, "undo").due(1, "line", 0, 2).due(0, "line", 1, 2).due(257, "count", 8);
    }

    private static void lastEight() {
        Sentences.sentence(13, "(the last 8 can be)");
        for (int deeds : new int[] {1, 7, 8, 9, 10, 16, 17, 24}) {
            Case done = new Case("line 0 1;node 0");
            for (int i = 0; i < deeds; i++) {
                done.then(i % 2 == 0 ? "spoil" : "mend", 0);
            }
            int can = Math.min(deeds, 8);
            done.due(can, "count", 11);
            Desk desk = done.open();
            for (int left = can - 1; left >= 0; left--) {
                desk.due(left, "undo").due(left, "count", 11);
            }
            // what was done ahead of the last 8 stays
            desk.due(NOT, "undo").due((deeds - can) % 2, "count", 8);
        }
        Case nine = new Case(times("line 0 1", 10));
        for (int line = 0; line < 9; line++) {
            nine.then("cut", line);
        }
        Desk cut = nine.open();
        for (int left = 7; left >= 0; left--) {
            cut.due(left, "undo").due(0, "line", left + 1, 2).due(1, "line", left, 2);
        }
        cut.due(NOT, "undo").due(1, "line", 0, 2);
        Desk puts = new Case("node 1").open();
        for (int meter = 1; meter < 9; meter++) {
            puts.due(meter, "put", 2, 0);
        }
        for (int left = 7; left >= 0; left--) {
            puts.due(left, "undo").due(left + 1, "count", 2);
        }
        puts.due(NOT, "undo").due(1, "count", 2).due(1, "put", 2, 0).due(0, "undo");
    }

    private static void undoneFully() {
        Sentences.sentence(13, "(the last 8 can be): how many can be undone yet.");
        // behind 8 some are undone, and others come in their place
        Desk desk = new Case(times("line 0 1", 10) + ";node 0").open();
        for (int line = 0; line < 8; line++) {
            desk.due(1, "cut", line);
        }
        desk.due(7, "undo").due(6, "undo").due(1, "cut", 9).due(1, "cut", 8).due(8, "count", 11);
        desk.due(1, "cut", 7).due(8, "count", 11).due(7, "undo").due(6, "undo").due(5, "undo");
        desk.due(0, "line", 7, 2).due(0, "line", 8, 2).due(0, "line", 9, 2).due(1, "line", 5, 2);
        for (int left = 4; left >= 0; left--) {
            desk.due(left, "undo").due(0, "line", left + 1, 2);
        }
        desk.due(NOT, "undo").due(1, "line", 0, 2).due(1, "count", 4);
        // a meter that is put in again is a new one, and not broken
        new Case("line 0 1").then("put", 0, 0).then("spoil", 0).then("undo").then("undo").then("put", 0, 0).due(0, "meter", 0, 2).due(1, "count", 4);
    }

    private static void keptPlaces() {
        Sentences.sentence(14, "METERS, LINES as they are now are kept (k 0, 1): RANK. UNKNOWN: no such k.");
        rich().due(3, "keep", 0).due(3, "keep", 1).refusedFirst(UNKNOWN, Sentences.outside(0, 1), "keep");
        new Case().due(0, "keep", 0).due(0, "keep", 1).refusedFirst(UNKNOWN, Sentences.outside(0, 1), "keep");
        new Case(ROW + ";flow0;flow1;flow2;flow3;flow4;flow5;flow6").due(7, "keep", 0).due(7, "keep", 1);
    }

    private static void keptAsNow() {
        Sentences.sentence(14, "METERS, LINES as they are now are kept");
        // each k has its own, and what is kept later takes the place of what was kept
        Case kept = new Case("line 0 1;line 1 2;flow 0;flow 1").then("keep", 0).then("cut", 0).then("keep", 1).then("cut", 1);
        kept.due(2, "back", 0).due(1, "back", 1).due(0, "keep", 0).due(2, "count", 11);
        kept.then("keep", 0).due(0, "back", 0).due(1, "back", 1);
        kept.then("keep", 1).due(0, "back", 1);
        // keeping is no deed, and what is undone later stays in what was kept
        Desk desk = new Case("line 0 1;flow 0").then("spoil", 0).then("keep", 0).open();
        desk.due(1, "count", 11).due(0, "undo").due(0, "count", 8).due(0, "back", 0).due(1, "count", 8);
    }

    private static void backPlaces() {
        Sentences.sentence(15, "UNKNOWN; NOT: nothing was kept since the last text.");
        rich().refusedFirst(UNKNOWN, Sentences.outside(0, 1), "back").due(3, "back", 0).due(3, "back", 1);
        new Case().refusedFirst(UNKNOWN, Sentences.outside(0, 1), "back").refused(NOT, "back", 0).refused(NOT, "back", 1);
        new Case().then("keep", 0).due(0, "back", 0).refused(NOT, "back", 1);
        new Case().then("keep", 1).due(0, "back", 1).refused(NOT, "back", 0);
    }

    private static void backAsKept() {
        Sentences.sentence(15, "It is as it was kept, nothing can be undone: RANK.");
        Case nine = new Case("line 0 1;line 1 2;" + times("node 0", 8)).then("put", 0, 1).then("spoil", 8).then("cut", 0).then("keep", 0);
        nine.then("undo").then("undo").then("undo").then("spoil", 0).then("keep", 1).then("put", 3, 1).then("cut", 1);
        Desk desk = nine.open();
        desk.due(0, "back", 0).due(9, "count", 2).due(256, "count", 8).due(1, "line", 0, 2).due(0, "line", 1, 2).due(0, "count", 11);
        desk.due(0, "meter", 8, 0).due(1, "meter", 8, 1).due(FULL, "put", 2, 0).due(NOT, "undo");
        desk.due(1, "back", 1).due(8, "count", 2).due(1, "count", 8).due(0, "line", 0, 2).due(8, "put", 2, 0).due(1, "count", 11);
        desk.due(0, "back", 0).due(0, "count", 11).due(1, "back", 1).due(8, "count", 2);
        // a meter of the same number may have been another one
        Case other = new Case("line 0 1;line 1 2;line 0 2").then("put", 0, 1).then("keep", 0).then("undo").then("put", 4, 2).then("keep", 1);
        other.open().due(1, "back", 0).due(0, "meter", 0, 0).due(1, "meter", 0, 1).due(2, "meter", 0, 3)
            .due(1, "back", 1).due(4, "meter", 0, 0).due(2, "meter", 0, 1).due(4, "meter", 0, 3);
        // trays, what was seen and the text stay
        rich().then("back", 0).due(3, "count", 10).due(1, "count", 9).due(13, "count", 12).due(1, "take", 0, 2);
    }

    private static void keptSinceText() {
        Sentences.sentence(15, "NOT: nothing was kept since the last text.");
        Case told = new Case("line 0 1;flow 0").then("keep", 0).then("keep", 1).told("line 1 2");
        told.refused(NOT, "back", 0).refused(NOT, "back", 1);
        told.then("keep", 1).due(1, "back", 1).refused(NOT, "back", 0);
        // a text with a fault is none
        told.typed("line 0 0").refused(NOT, "grid").due(1, "back", 1);
        Desk desk = told.open();
        desk.due(NOT, "grid").due(1, "back", 1).due(8, "erase").due(1, "back", 1);
    }
}
