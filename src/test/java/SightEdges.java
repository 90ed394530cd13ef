/** Boundary cases of the promises 16 to 24: what can be told, what was seen. A test for each sentence. */
public final class SightEdges {
    private static final int NONE = MeterDesk.NONE, UNKNOWN = MeterDesk.UNKNOWN, OUTSIDE = MeterDesk.OUTSIDE;
    private static final int NOT = MeterDesk.NOT, FULL = MeterDesk.FULL;
    private static final int LEAST = Integer.MIN_VALUE, MOST = Integer.MAX_VALUE;
    /** A row of eight nodes: line i between i and i + 1. */
    private static final String ROW = "grid 8;line 0 1;line 1 2;line 2 3;line 3 4;line 4 5;line 5 6;line 6 7";
    private static final String SEVEN_FLOWS = "flow0;flow1;flow2;flow3;flow4;flow5;flow6";

    public static void main(String[] args) {
        islands();
        whichNode();
        weakNone();
        weakSets();
        weakWhat();
        dealWhole();
        dealNone();
        dealBest();
        dealWhat();
        lost();
        lostWhich();
        brings();
        bringsWhere();
        seenBounds();
        seenFull();
        forgotten();
        fits();
        fitsNoPlace();
        asks();
        asksBest();
        Sentences.end(16, 24);
    }

    private static String times(String part, int n) {
        return Sentences.times(part, n);
    }

    /** Something of everything. */
    private static Case rich() {
        Case rich = new Case("grid 5;line 0 1;line 1 2;line 2 1;line 2 3;line 3 4;flow 0;pair 1;wide 3;offer 2 4 3;offer 0 3 1");
        rich.then("keep", 0).then("put", 2, 4).then("spoil", 0).then("cut", 1);
        return rich.then("tray", 0).then("lay", 0, 0, 7).then("seen", 1, 6).typed("node 0;flow x");
    }

    private static void islands() {
        Sentences.sentence(16, "ISLAND of a NODE: NODES that hang together with it by LINES of THE TREE.");
        Case none = new Case(ROW);
        Case all = new Case(ROW + ";" + SEVEN_FLOWS);
        Case cut = new Case(ROW + ";" + SEVEN_FLOWS).then("cut", 3);
        Case ends = new Case(ROW + ";flow 0;flow 6");
        for (int node = 0; node < 8; node++) {
            none.quiet(1 << node, "island", node);
            all.quiet(255, "island", node);
            cut.due(node < 4 ? 15 : 240, "island", node);
            ends.due(node < 2 ? 3 : node > 5 ? 192 : 1 << node, "island", node);
        }
        // lines that no meter tells join nothing; nor do those that were left out of the tree
        new Case("grid 4;line 0 1;line 0 1;line 2 3;flow 1;pair 0").due(3, "island", 0).due(4, "island", 2).due(8, "island", 3);
        new Case("grid 2;line 0 1;node 1").due(3, "island", 0).due(3, "island", 1);
        new Case("line 0 2;line 1 2;flow 0;flow 1").open().due(7, "island", 0).due(1, "cut", 0).due(1, "island", 0).due(6, "island", 1)
            .due(0, "cut", 1).due(1, "island", 0).due(2, "island", 1).due(4, "island", 2);
    }

    private static void whichNode() {
        Sentences.sentence(16, "ISLAND of a NODE, as a set (bits). UNKNOWN.");
        new Case().refusedFirst(UNKNOWN, Sentences.outside(0, 2), "island").due(4, "island", 2);
        new Case("grid 2").refusedFirst(UNKNOWN, Sentences.outside(0, 1), "island").due(2, "island", 1);
        new Case("grid 7").refusedFirst(UNKNOWN, Sentences.outside(0, 6), "island").due(64, "island", 6);
        new Case("grid 8;" + times("line 0 1", 10)).refusedFirst(UNKNOWN, Sentences.outside(0, 7), "island").due(128, "island", 7);
        rich().refusedFirst(UNKNOWN, Sentences.outside(0, 4), "island");
    }

    private static void weakNone() {
        Sentences.sentence(17, "WEAK: the fewest METERS, not BROKEN, without which RANK is less; of several sets the least number (bits); none (RANK is 0).");
        Case[] ranksOfNone = {new Case(), new Case("line 0 1"), new Case(times("node 0", 9)), new Case("line 0 1;dull 0"),
            new Case("line 0 1;node 0").then("spoil", 0), new Case("line 0 1;node 0").then("cut", 0)};
        for (Case blind : ranksOfNone) {
            blind.due(0, "count", 4).quiet(NONE, "weak", 0).quiet(NONE, "weak", 1);
        }
        new Case("line 0 1;node 0").then("spoil", 0).then("mend", 0).due(1, "weak", 0).due(1, "weak", 1);
    }

    private static void weakSets() {
        Sentences.sentence(17, "WEAK: the set (what 0), how many (1); NONE.");
        for (int meters = 1; meters <= 9; meters++) {
            new Case("line 0 1;" + times("node 0", meters)).quiet((1 << meters) - 1, "weak", 0).quiet(meters, "weak", 1);
        }
        // the only one that matters is the last
        new Case("line 0 1;" + times("dull 0", 8)).then("put", 0, 0).due(256, "weak", 0).due(1, "weak", 1);
        new Case(ROW + ";" + SEVEN_FLOWS).due(1, "weak", 0).due(1, "weak", 1).then("spoil", 0).due(2, "weak", 0);
        // the fewest, not the least number: one that is alone comes ahead of two
        new Case("line 0 1;line 1 2;flow 0;flow 0;flow 1").due(4, "weak", 0).due(1, "weak", 1);
        // of like ones the least number, whatever bits it has
        new Case("line 0 1;line 1 2;flow 0;flow 1;flow 1;flow 0").due(6, "weak", 0).due(2, "weak", 1);
        new Case("line 0 1;line 1 2;flow 0;flow 1;flow 0;flow 1").due(5, "weak", 0).due(2, "weak", 1);
        // those that are broken are in no set
        Case nine = new Case("line 0 1;" + times("node 0", 9)).then("spoil", 0).then("spoil", 8);
        nine.due(254, "weak", 0).due(7, "weak", 1);
        rich().quiet(2, "weak", 0).quiet(1, "weak", 1);
    }

    private static void weakWhat() {
        Sentences.sentence(17, "how many (1); NONE. OUTSIDE.");
        rich().refusedFirst(OUTSIDE, Sentences.outside(0, 1), "weak");
        // also where it is none
        new Case().refusedFirst(OUTSIDE, Sentences.outside(0, 1), "weak");
    }

    private static void dealWhole() {
        Sentences.sentence(18, "0 if it is WHOLE; none.");
        new Case().quiet(0, "deal", 0).quiet(0, "deal", 1);
        new Case("offer 2 0 1").quiet(0, "deal", 0).quiet(0, "deal", 1);
        new Case(ROW + ";" + SEVEN_FLOWS, times("offer 2 0 1", 6)).quiet(0, "deal", 0).quiet(0, "deal", 1);
        new Case("line 0 1;offer 0 0 9").then("cut", 0).due(0, "deal", 0).due(0, "deal", 1);
        new Case("line 0 1;flow 0;offer 0 0 9").due(0, "deal", 0).then("spoil", 0).due(1, "deal", 0).due(9, "deal", 1);
        Sentences.sentence(18, "WHOLE: RANK is WHOLE RANK.");
        new Case("grid 4;line 0 1;line 2 3;flow 0;flow 1;offer 2 0 1").due(0, "deal", 0);
        new Case("grid 4;line 0 1;line 2 3;flow 0;offer 0 1 4;offer 2 0 1").due(1, "deal", 0).due(4, "deal", 1);
    }

    private static void dealNone() {
        Sentences.sentence(18, "DEAL: the set (what 0), what it costs (1); NONE.");
        new Case("line 0 1").quiet(NONE, "deal", 0).quiet(NONE, "deal", 1);
        new Case("line 0 1;offer 4 0 1;offer 2 2 1").quiet(NONE, "deal", 0).quiet(NONE, "deal", 1);
        new Case(ROW, times("offer 3 3 1", 6)).due(NONE, "deal", 0).due(NONE, "deal", 1);
        // what was asked ahead of it does not matter
        new Case("line 0 1;flow 0").open().due(1, "weak", 0).due(0, "deal", 0).due(0, "spoil", 0).due(NONE, "deal", 0).due(NONE, "weak", 0);
        new Case("line 0 1;" + times("flow 0", 9) + ";" + times("offer 2 2 1", 6)).then("weak", 0).then("cut", 0).then("undo").due(0, "deal", 0)
            .then("spoil", 0).due(0, "deal", 0).due(510, "weak", 0);
        new Case("line 0 1;line 1 2;" + times("offer 0 0 1", 6)).due(NONE, "deal", 0).then("cut", 1).due(1, "deal", 0).due(1, "deal", 1);
    }

    private static void dealBest() {
        Sentences.sentence(18, "DEAL: a set of OFFERS that, being METERS, too, make it WHOLE: the cheapest, of these the one of the fewest, then of the least number (bits)");
        String six = "offer 0 0 9;offer 0 1 9;offer 0 2 9;offer 0 3 9;offer 0 4 9;offer 0 5 9";
        new Case(ROW + ";flow 6", six).quiet(63, "deal", 0).quiet(54, "deal", 1);
        new Case(ROW + ";flow 6", six).then("put", 0, 0).due(62, "deal", 0).due(45, "deal", 1).then("put", 0, 5).due(30, "deal", 0).due(36, "deal", 1);
        new Case("line 0 1;offer 0 0 9;offer 2 1 8;offer 1 0 9;offer 2 0 9;offer 3 0 9;offer 3 1 9").due(2, "deal", 0).due(8, "deal", 1);
        new Case("line 0 1;offer 0 0 9;offer 2 1 9;offer 1 0 9;offer 2 0 9;offer 3 0 9;offer 3 1 1").due(32, "deal", 0).due(1, "deal", 1);
        new Case("line 0 1;" + times("offer 0 0 9", 6)).due(1, "deal", 0).due(9, "deal", 1);
        // the cheapest: 5 and 1, not 5 and 5; of those at 6 the least number
        new Case("line 0 1;line 1 2;offer 0 0 5;offer 0 1 5;offer 0 0 9;offer 0 1 1;offer 0 0 5").due(9, "deal", 0).due(6, "deal", 1);
        new Case("line 0 1;line 1 2;offer 0 0 5;offer 0 1 5;offer 0 1 5;offer 0 0 5").due(3, "deal", 0).due(10, "deal", 1);
        // offers come beside nine meters, too
        new Case("line 0 1;line 1 2;" + times("node 0", 9) + ";offer 2 2 3").due(1, "deal", 0).due(3, "deal", 1);
    }

    private static void dealWhat() {
        Sentences.sentence(18, "what it costs (1); NONE. OUTSIDE.");
        rich().refusedFirst(OUTSIDE, Sentences.outside(0, 1), "deal");
        new Case().refusedFirst(OUTSIDE, Sentences.outside(0, 1), "deal");
        new Case("line 0 1").refusedFirst(OUTSIDE, Sentences.outside(0, 1), "deal");
    }

    private static void lost() {
        Sentences.sentence(19, "LOST by a LINE: by how much RANK would be less, were it CUT.");
        // all seven look through line 0
        Case star = new Case("grid 8;line 0 1;line 1 2;line 1 3;line 1 4;line 1 5;line 1 6;line 1 7;" + times("wide 0", 7));
        star.due(7, "count", 4).quiet(7, "lost", 0).quiet(1, "lost", 1).quiet(1, "lost", 6);
        new Case(ROW).due(0, "lost", 0).due(0, "lost", 6);
        Case ten = new Case(times("line 0 1", 10) + ";flow 9;pair 0");
        for (int line = 0; line < 10; line++) {
            ten.quiet(0, "lost", line);
        }
        ten.then("spoil", 1).quiet(0, "lost", 0).quiet(1, "lost", 9);
        // a dull meter that does not tell its least line tells the next one no more
        new Case("grid 3;line 0 1;line 1 2;dull 1").quiet(1, "lost", 0).quiet(1, "lost", 1);
    }

    private static void lostWhich() {
        Sentences.sentence(19, "LOST. UNKNOWN; NOT: it is CUT.");
        new Case("grid 8").refusedFirst(UNKNOWN, Sentences.outside(0, -1), "lost");
        new Case("line 0 1").refusedFirst(UNKNOWN, Sentences.outside(0, 0), "lost");
        new Case(times("line 0 1", 10)).refusedFirst(UNKNOWN, Sentences.outside(0, 9), "lost");
        rich().refusedFirst(UNKNOWN, Sentences.outside(0, 4), "lost").refused(NOT, "lost", 1);
        Case ten = new Case(times("line 0 1", 10)).then("cut", 0).then("cut", 9);
        ten.refused(NOT, "lost", 0).refused(NOT, "lost", 9).due(0, "lost", 1).due(0, "lost", 8);
        ten.then("undo").due(0, "lost", 9).refused(NOT, "lost", 0);
    }

    private static void brings() {
        Sentences.sentence(20, "BRINGS of a SORT AT a LINE or a NODE: by how much RANK would be more, were such a METER there.");
        Case one = new Case("grid 3;line 0 1;line 1 2;flow 0");
        one.quiet(0, "brings", 0, 0).quiet(1, "brings", 0, 1).quiet(0, "brings", 1, 0).quiet(1, "brings", 1, 1);
        one.quiet(0, "brings", 2, 0).quiet(1, "brings", 2, 1).quiet(1, "brings", 2, 2).quiet(1, "brings", 3, 0);
        one.quiet(0, "brings", 4, 0).quiet(1, "brings", 4, 1).quiet(0, "brings", 4, 2);
        one.then("cut", 1).due(0, "brings", 0, 1).due(0, "brings", 3, 0).due(0, "brings", 2, 2);
        new Case(ROW + ";" + SEVEN_FLOWS).due(0, "brings", 3, 3).due(0, "brings", 0, 6);
        // beside nine, where put() is FULL
        new Case("grid 3;line 0 1;line 1 2;" + times("flow 0", 9)).quiet(1, "brings", 0, 1).quiet(0, "brings", 0, 0);
    }

    private static void bringsWhere() {
        Sentences.sentence(20, "BRINGS. UNKNOWN; OUTSIDE: the SORT.");
        for (int sort = 0; sort <= 4; sort++) {
            new Case().refusedLast(UNKNOWN, Sentences.outside(0, sort < 2 ? -1 : 2), "brings", sort);
            new Case("grid 2;" + times("line 0 1", 10)).refusedLast(UNKNOWN, Sentences.outside(0, sort < 2 ? 9 : 1), "brings", sort);
            new Case("grid 8;line 0 1").refusedLast(UNKNOWN, Sentences.outside(0, sort < 2 ? 0 : 7), "brings", sort);
            rich().refusedLast(UNKNOWN, Sentences.outside(0, 4), "brings", sort);
        }
        rich().refusedFirst(OUTSIDE, Sentences.outside(0, 4), "brings", 0).refusedFirst(OUTSIDE, Sentences.outside(0, 4), "brings", 4);
        new Case().refusedFirst(OUTSIDE, Sentences.outside(0, 4), "brings", 2);
        // without a sort there is neither a line nor a node that could be missing
        new Case().refused(OUTSIDE, "brings", 5, 3).refused(OUTSIDE, "brings", -1, -1).refused(OUTSIDE, "brings", LEAST, MOST);
    }

    private static void seenBounds() {
        Sentences.sentence(21, "a (0 .. 9), may serve for just these LINES (bits, 0 .. 1023)");
        for (int a : new int[] {0, 1, 8, 9}) {
            for (int lines : new int[] {0, 1, 512, 1022, 1023}) {
                new Case().due(1, "seen", a, lines);
            }
        }
        Case[] cases = {new Case(), rich()};
        for (Case some : cases) {
            some.refusedFirst(OUTSIDE, Sentences.outside(0, 9), "seen", 0).refusedFirst(OUTSIDE, Sentences.outside(0, 9), "seen", 1023);
            some.refusedLast(OUTSIDE, Sentences.outside(0, 1023), "seen", 0).refusedLast(OUTSIDE, Sentences.outside(0, 1023), "seen", 9);
            some.refused(OUTSIDE, "seen", -1, -1).refused(OUTSIDE, "seen", 10, 1024).refused(OUTSIDE, "seen", LEAST, MOST);
        }
        // a need not be there
        new Case("grid 2").due(1, "seen", 9, 0).due(1, "seen", 2, 1023);
    }

    private static void seenFull() {
        Sentences.sentence(21, "SEEN: how many. OUTSIDE; FULL.");
        Desk desk = new Case().open();
        for (int many = 1; many <= 6; many++) {
            desk.due(many, "seen", many, 0).due(many, "count", 9);
        }
        desk.due(FULL, "seen", 0, 0).due(FULL, "seen", 9, 1023).due(6, "count", 9);
        Case full = new Case("line 0 1");
        for (int many = 0; many < 6; many++) {
            full.then("seen", 0, 1);
        }
        full.refused(FULL, "seen", 0, 0).refused(FULL, "seen", 9, 1023).due(15, "fit");
        full.refusedFirst(OUTSIDE, Sentences.outside(0, 9), "seen", 0).refusedLast(OUTSIDE, Sentences.outside(0, 1023), "seen", 0);
        full.then("forget").due(1, "seen", 0, 0);
    }

    private static void forgotten() {
        Sentences.sentence(22, "SEEN is nothing: how many there were.");
        new Case().quiet(0, "forget");
        Case seen = new Case("line 0 1");
        for (int many = 1; many <= 6; many++) {
            seen.then("seen", 0, 2).due(many, "forget");
            seen.open().due(0, "fit").due(many, "forget").due(0, "count", 9).due(31, "fit").due(0, "forget").due(1, "seen", 0, 1);
        }
        rich().then("forget").quiet(0, "forget").due(3, "count", 11).due(1, "count", 10).due(13, "count", 12);
    }

    private static void fits() {
        Sentences.sentence(23, "FIT: SORTS (bits) by which all that is SEEN would be so");
        new Case().quiet(31, "fit");
        Case some = new Case("grid 3;line 0 1;line 1 2;line 1 2");
        some.quiet(31, "fit");
        some.open().due(1, "seen", 1, 2).due(1, "fit").due(2, "seen", 0, 1).due(1, "fit").due(3, "seen", 0, 3).due(0, "fit");
        some.open().due(1, "seen", 1, 6).due(18, "fit").due(2, "seen", 0, 0).due(16, "fit");
        some.open().due(1, "seen", 1, 7).due(12, "fit").due(2, "seen", 2, 7).due(8, "fit");
        some.open().due(1, "seen", 1, 1023).due(0, "fit");
        Case ten = new Case(times("line 0 1", 10));
        ten.open().due(1, "seen", 0, 1023).due(14, "fit").due(2, "seen", 9, 1023).due(2, "fit");
        ten.open().due(1, "seen", 9, 512).due(1, "fit");
        ten.open().due(1, "seen", 1, 1022).due(16, "fit");
        // all six count, the first and the last too
        Case six = new Case("grid 2;line 0 1");
        for (int many = 0; many < 5; many++) {
            six.then("seen", 0, 1);
        }
        six.due(15, "fit").then("seen", 0, 0).due(0, "fit");
        Sentences.sentence(23, "that was AT a LINE or a NODE of this grid as it is now");
        some.then("seen", 1, 6).quiet(18, "fit").then("cut", 2).due(0, "fit").then("undo").due(18, "fit").then("cut", 0).due(14, "fit");
    }

    private static void fitsNoPlace() {
        Sentences.sentence(23, "(a SORT that can not be AT a, since there is no such LINE, no such NODE, would not)");
        new Case().then("seen", 0, 0).quiet(28, "fit");
        new Case().then("seen", 2, 0).quiet(28, "fit");
        new Case().then("seen", 3, 0).quiet(0, "fit");
        new Case().then("seen", 9, 0).quiet(0, "fit");
        new Case("grid 8").then("seen", 7, 0).due(28, "fit");
        new Case("grid 8").then("seen", 8, 0).due(0, "fit");
        Case tenOfTwo = new Case("grid 2;" + times("line 0 1", 10));
        for (int line = 0; line < 10; line++) {
            tenOfTwo.then("cut", line);
        }
        tenOfTwo.open().due(1, "seen", 1, 0).due(31, "fit");
        tenOfTwo.open().due(1, "seen", 2, 0).due(3, "fit");
        tenOfTwo.open().due(1, "seen", 9, 0).due(3, "fit");
        Case nine = new Case("grid 2;" + times("line 0 1", 9)).then("cut", 8);
        nine.open().due(1, "seen", 8, 0).due(1, "fit");
        nine.open().due(1, "seen", 9, 0).due(0, "fit");
    }

    private static void asks() {
        Sentences.sentence(24, "none (none parts them)");
        new Case().quiet(NONE, "ask");
        new Case("grid 8").quiet(NONE, "ask");
        // none fits, one fits, two that are alike everywhere
        new Case("line 0 1").then("seen", 0, 2).due(0, "fit").quiet(NONE, "ask");
        new Case("grid 2;line 0 1").then("seen", 0, 0).due(16, "fit").quiet(NONE, "ask");
        new Case("grid 2;line 0 1").then("seen", 1, 1).due(12, "fit").quiet(NONE, "ask");
        new Case(times("line 0 1", 9)).then("cut", 0).then("seen", 0, 0).due(1, "fit").due(NONE, "ask");
    }

    private static void asksBest() {
        Sentences.sentence(24, "(by the LINES for which one may serve; one that can not be there serves for none): the greatest part that is alike is least; of like ones the least");
        // at 0: 1 1 1 1 0, at 1: 0 0 1 1 0 (no line 1), from 2 on nothing
        new Case("grid 2;line 0 1").quiet(1, "ask");
        // at 0: 1 1 1 7 0, at 1: 2 6 7 15 6, at 2: 4 6 14 31 12: parts of three, two, one
        Case path = new Case("grid 5;line 0 1;line 1 2;line 2 1;line 2 3;line 3 4");
        path.quiet(2, "ask");
        // flow and pair are alike at 0, parted at 1
        new Case("grid 3;line 0 2;line 0 1;line 0 1").then("seen", 0, 1).due(3, "fit").quiet(1, "ask");
        // flow, pair, dull: nothing at each place, but at 9, where dull can not be
        Case last = new Case("grid 4;" + times("line 0 1", 9) + ";line 2 3");
        for (int line = 0; line < 9; line++) {
            last.then("cut", line);
        }
        last.then("seen", 2, 0).due(19, "fit").quiet(9, "ask");
        // flow, pair, node: all alike at 0, two alike at 1 and at 2: of like ones the least
        new Case("grid 3;line 0 1;line 1 2").then("seen", 0, 1).due(7, "fit").quiet(1, "ask");
        // node, wide, dull: two alike at 0 and at 1
        new Case("grid 3;line 0 1;line 0 1;line 0 1").then("seen", 2, 0).due(28, "fit").quiet(0, "ask");
        // node and wide: alike at 0, parted at 1 and at 2
        new Case("grid 3;line 0 1;line 0 2").then("seen", 0, 3).due(12, "fit").quiet(1, "ask");
        // as the grid is now
        path.then("cut", 1).then("cut", 4).then("cut", 3).then("cut", 0).quiet(1, "ask");
    }
}
