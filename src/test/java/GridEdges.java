/** Boundary cases of the promises 6 to 8: what is told of a LINE, a METER, an OFFER. A test for each sentence. */
public final class GridEdges {
    private static final int NONE = MeterDesk.NONE, UNKNOWN = MeterDesk.UNKNOWN, OUTSIDE = MeterDesk.OUTSIDE;
    private static final int LEAST = Integer.MIN_VALUE, MOST = Integer.MAX_VALUE;
    private static final String TEN_ALIKE = "line0 1;line0 1;line0 1;line0 1;line0 1;line0 1;line0 1;line0 1;line0 1;line1 0";
    /** A row of eight nodes: line i between i and i + 1. */
    private static final String ROW = "grid 8;line 0 1;line 1 2;line 2 3;line 3 4;line 4 5;line 5 6;line 6 7";

    public static void main(String[] args) {
        nodesOfLine();
        cutLine();
        lineInTree();
        ringsAndLeastTree();
        metersOfLine();
        servesByTheLeast();
        whichLine();
        sortAndPlace();
        flow();
        pair();
        node();
        wide();
        dull();
        brokenAndCut();
        servedLine();
        critical();
        whichMeter();
        offers();
        whichOffer();
        Sentences.end(6, 8);
    }

    private static String times(String part, int n) {
        return Sentences.times(part, n);
    }

    private static void nodesOfLine() {
        Sentences.sentence(6, "Of a LINE: its lesser NODE (what 0), the greater (1)");
        new Case("grid 8;line 0 7;line 7 0;line 6 7;line 7 6;line 0 1;line 1 0")
            .due(0, "line", 0, 0).due(7, "line", 0, 1).due(0, "line", 1, 0).due(7, "line", 1, 1)
            .due(6, "line", 2, 0).due(7, "line", 2, 1).due(6, "line", 3, 0).due(7, "line", 3, 1)
            .due(0, "line", 4, 0).due(1, "line", 4, 1).due(0, "line", 5, 0).due(1, "line", 5, 1);
        new Case("grid 2;line 1 0").quiet(0, "line", 0, 0).quiet(1, "line", 0, 1);
    }

    private static void cutLine() {
        Sentences.sentence(6, "1 it is CUT (2)");
        Case ten = new Case(TEN_ALIKE).quiet(0, "line", 0, 2).quiet(0, "line", 9, 2);
        ten.then("cut", 9).due(1, "line", 9, 2).due(0, "line", 8, 2).due(0, "line", 0, 2);
        ten.then("cut", 0).due(1, "line", 0, 2).due(0, "line", 1, 2).due(1, "line", 9, 2);
        ten.then("undo").due(0, "line", 0, 2).due(1, "line", 9, 2);
    }

    private static void lineInTree() {
        Sentences.sentence(6, "1 it is in THE TREE (3)");
        Case none = new Case(TEN_ALIKE);
        Case first = new Case(TEN_ALIKE + ";flow 0");
        Case last = new Case(TEN_ALIKE + ";flow 9");
        for (int line = 0; line < 10; line++) {
            none.due(0, "line", line, 3);
            first.due(line == 0 ? 1 : 0, "line", line, 3);
            last.due(line == 9 ? 1 : 0, "line", line, 3);
        }
        last.then("cut", 9).due(0, "line", 9, 3);
        Sentences.sentence(6, "A TREE: LINES, not CUT, no RING among them, each with a METER of its own that may serve for it.");
        new Case(ROW + ";node 3").due(1, "count", 4).due(4, "count", 6);
        new Case(ROW + ";node 3;node 3").due(2, "count", 4).due(12, "count", 6);
        new Case(ROW + ";node 3;node 3;node 3").due(2, "count", 4).due(12, "count", 6);
        new Case("grid 2;" + times("line 0 1", 10) + ";" + times("pair 9", 9)).due(1, "count", 4).due(1, "count", 6);
        // the first and the seventh line at one node; the last four in one row
        new Case("grid 8;line 0 1;line 1 2;line 2 3;line 3 4;line 4 5;line 5 6;line 0 7;flow 6;node 0").due(2, "count", 4).due(65, "count", 6);
        new Case("grid 6;" + times("line 0 1", 6) + ";line 1 2;line 2 3;line 3 4;line 4 5;flow 6;flow 7;flow 8;flow 9;flow 5")
            .due(5, "count", 4).due(992, "count", 6).due(5, "count", 5).due(1, "count", 13);
    }

    private static void ringsAndLeastTree() {
        Sentences.sentence(6, "RANK: how many LINES there are at most in one.");
        new Case(ROW).due(0, "count", 4).due(0, "count", 6);
        String all = "flow0;flow1;flow2;flow3;flow4;flow5;flow6";
        new Case(ROW + ";" + all).due(7, "count", 4).due(127, "count", 6);
        new Case(ROW + ";" + all + ";wide 3;wide 3").due(7, "count", 4).due(127, "count", 6);
        Case triangle = new Case("grid 3;line 0 1;line 1 2;line 0 2;flow 0;flow 1;flow 2");
        triangle.due(2, "count", 4);
        Sentences.sentence(6, "THE TREE: of those with so many the one whose set is the least number (bits).");
        triangle.due(3, "count", 6);
        new Case(triangle()).then("spoil", 0).due(6, "count", 6);
        new Case(triangle()).then("cut", 1).due(5, "count", 6);
        // 0, 2, 4 are a ring; of 1, 2, 4 (22) and 0, 3, 4 (25) the one without line 0 is the lesser number
        new Case("grid 5;line 0 1;line 0 3;line 1 2;line 2 4;line 0 2;node 0;node 2;flow 4").due(3, "count", 4).due(22, "count", 6);
        new Case("grid 3;line 0 1;line 0 1;line 1 2;line 1 2;flow 1;flow 3;pair 2").due(6, "count", 6);
    }

    private static String triangle() {
        return "grid 3;line 0 1;line 1 2;line 0 2;flow 0;flow 1;flow 2";
    }

    private static void metersOfLine() {
        Sentences.sentence(6, "its METER (4; NONE)");
        Case nine = new Case(TEN_ALIKE + ";" + times("flow 0", 8) + ";flow 9");
        nine.due(0, "line", 0, 4);
        for (int line = 1; line < 10; line++) {
            nine.due(NONE, "line", line, 4);
        }
        nine.then("cut", 0).due(8, "line", 9, 4).due(NONE, "line", 0, 4);
        new Case("line 0 1").due(NONE, "line", 0, 4);
        new Case("line 0 1;node 0;node 0").then("spoil", 0).due(1, "line", 0, 4).then("spoil", 1).due(NONE, "line", 0, 4);
    }

    private static void servesByTheLeast() {
        Sentences.sentence(6, "for the least LINE the least METER by which each other one can have one yet, for the next one likewise, and so on.");
        String row = "grid 4;line 0 1;line 1 2;line 2 3;";
        // meter 0 could tell line 0, but then none is left for line 2
        new Case(row + "wide 1;node 0;flow 1").due(1, "line", 0, 4).due(2, "line", 1, 4).due(0, "line", 2, 4).due(0, "count", 7);
        // meter 0 can be had for line 0: 1 and 2 serve for the others
        new Case(row + "wide 1;node 1;wide 2;node 3").due(0, "line", 0, 4).due(1, "line", 1, 4).due(2, "line", 2, 4).due(8, "count", 7);
        new Case(row + "wide 1;wide 1;wide 1").due(0, "line", 0, 4).due(1, "line", 1, 4).due(2, "line", 2, 4);
        // line 1 has to leave meter 1 to line 2
        new Case(row + "flow 0;wide 3;node 1").due(0, "line", 0, 4).due(2, "line", 1, 4).due(1, "line", 2, 4);
        // what served ahead of a cut is asked for, and forgotten behind it
        new Case("line 0 1;line 1 2;wide 2;node 0").open().due(1, "line", 0, 4).due(0, "line", 1, 4)
            .due(1, "cut", 1).due(1, "line", 0, 4).due(NONE, "line", 1, 4).due(NONE, "meter", 0, 4).due(1, "count", 7);
        Sentences.sentence(6, "SPARE: METERS, not BROKEN, that serve for none so.");
        Case nine = new Case("grid 2;line 0 1;" + times("flow 0", 9));
        nine.due(510, "count", 7);
        nine.then("spoil", 0).due(508, "count", 7).then("spoil", 8).due(252, "count", 7);
        nine.then("cut", 0).due(254, "count", 7);
    }

    private static void whichLine() {
        Sentences.sentence(6, "1 it is in THE TREE (3), its METER (4; NONE). UNKNOWN; OUTSIDE.");
        for (String text : new String[] {"grid 8", "line 0 1", times("line 0 1", 9), times("line 0 1", 10)}) {
            Case told = new Case(text);
            int lines = text.contains("line") ? text.split(";").length : 0;
            for (int what : new int[] {0, 4, -1, 5, LEAST, MOST}) {
                told.refusedFirst(UNKNOWN, Sentences.outside(0, lines - 1), "line", what);
            }
            for (int line = 0; line < lines; line++) {
                told.quiet(0, "line", line, 0).quiet(1, "line", line, 1).refused(OUTSIDE, "line", line, 5);
            }
        }
        Case rich = new Case(ROW + ";wide 3;node 5").then("cut", 3).then("spoil", 1);
        rich.refusedLast(OUTSIDE, Sentences.outside(0, 4), "line", 0).refusedLast(OUTSIDE, Sentences.outside(0, 4), "line", 6);
    }

    private static void sortAndPlace() {
        Sentences.sentence(7, "Of a METER: SORT (what 0), AT (1), 1 it is BROKEN (2)");
        Case nine = new Case("grid 8;" + TEN_ALIKE, "flow 0;flow 9;pair 9;node 0;node 7;wide 7;dull 0;dull 7");
        nine.then("put", 1, 9);
        int[] sorts = {0, 0, 1, 2, 2, 3, 4, 4, 1};
        int[] places = {0, 9, 9, 0, 7, 7, 0, 7, 9};
        for (int meter = 0; meter < 9; meter++) {
            nine.due(sorts[meter], "meter", meter, 0).due(places[meter], "meter", meter, 1).due(0, "meter", meter, 2);
        }
        nine.then("spoil", 8).due(1, "meter", 8, 2).due(0, "meter", 7, 2).due(0, "meter", 0, 2);
        nine.then("spoil", 0).due(1, "meter", 0, 2).due(0, "meter", 1, 2).due(1, "meter", 8, 2);
        nine.then("mend", 8).due(0, "meter", 8, 2).due(1, "meter", 0, 2);
    }

    private static void flow() {
        Sentences.sentence(7, "0 FLOW, AT a LINE: that one.");
        Case ten = new Case(TEN_ALIKE);
        for (int line = 0; line < 10; line++) {
            ten.open().due(0, "put", 0, line).due(1 << line, "meter", 0, 3).due(1, "count", 4);
        }
    }

    private static void pair() {
        Sentences.sentence(7, "1 PAIR, AT a LINE: that one, and those between the same NODES.");
        Case ten = new Case(TEN_ALIKE);
        for (int line = 0; line < 10; line++) {
            ten.open().due(0, "put", 1, line).due(1023, "meter", 0, 3);
        }
        Case some = new Case("grid 4;line 0 1;line 2 1;line 1 0;line 0 2;line 1 2;line 1 3");
        int[] beside = {5, 18, 5, 8, 18, 32};
        for (int line = 0; line < 6; line++) {
            some.open().due(0, "put", 1, line).due(beside[line], "meter", 0, 3);
        }
    }

    private static void node() {
        Sentences.sentence(7, "2 NODE, AT a NODE: those at it.");
        new Case("grid 3;" + TEN_ALIKE + ";node 0;node 1;node 2").due(1023, "meter", 0, 3).due(1023, "meter", 1, 3).due(0, "meter", 2, 3);
        new Case("node 0").due(0, "meter", 0, 3);
        Case row = new Case(ROW);
        for (int node = 0; node < 8; node++) {
            int at = (node > 0 ? 1 << node - 1 : 0) | (node < 7 ? 1 << node : 0);
            row.open().due(0, "put", 2, node).due(at, "meter", 0, 3);
        }
    }

    private static void wide() {
        Sentences.sentence(7, "3 WIDE, AT a NODE: those at it, and those at NODES that these lead to.");
        new Case("grid 4;" + TEN_ALIKE + ";wide 0;wide 1;wide 2").due(1023, "meter", 0, 3).due(1023, "meter", 1, 3).due(0, "meter", 2, 3);
        new Case("wide 0").due(0, "meter", 0, 3);
        Case row = new Case(ROW);
        int[] near = {3, 7, 15, 30, 60, 120, 112, 96};
        for (int node = 0; node < 8; node++) {
            row.open().due(0, "put", 3, node).due(near[node], "meter", 0, 3);
        }
        // a line that is cut leads nowhere
        row.then("cut", 3).then("put", 3, 3).then("put", 3, 4).due(6, "meter", 0, 3).due(48, "meter", 1, 3);
        row.then("cut", 2).due(0, "meter", 0, 3);
        // one of two that are beside each other still leads there
        new Case("grid 3;line 0 1;line 1 0;line 1 2;wide 0").then("cut", 0).due(6, "meter", 0, 3).then("cut", 1).due(0, "meter", 0, 3);
    }

    private static void dull() {
        Sentences.sentence(7, "4 DULL, AT a NODE: those at it, but the one of the least number.");
        new Case("grid 3;" + TEN_ALIKE + ";dull 0;dull 1;dull 2").due(1022, "meter", 0, 3).due(1022, "meter", 1, 3).due(0, "meter", 2, 3);
        new Case("dull 0").due(0, "meter", 0, 3);
        new Case("line 0 1;dull 0").due(0, "meter", 0, 3).due(0, "count", 4);
        new Case("line 0 1;line 0 2;dull 0;dull 1").due(2, "meter", 0, 3).due(0, "meter", 1, 3);
        Case ten = new Case(TEN_ALIKE + ";dull 0");
        for (int line = 0; line < 10; line++) {
            // of those that are not cut the least one is not told
            ten.then("cut", line).due(line >= 8 ? 0 : 1023 & ~((4 << line) - 1), "meter", 0, 3);
        }
        new Case(TEN_ALIKE + ";dull 0").then("cut", 9).due(510, "meter", 0, 3).then("cut", 1).due(508, "meter", 0, 3);
    }

    private static void brokenAndCut() {
        Sentences.sentence(7, "A METER that is BROKEN may serve for none.");
        Case all = new Case(TEN_ALIKE + ";flow 9;pair 0;node 0;wide 1;dull 1");
        int[] lines = {512, 1023, 1023, 1023, 1022};
        for (int meter = 0; meter < 5; meter++) {
            all.due(lines[meter], "meter", meter, 3);
            all.open().due(1, "spoil", meter).due(0, "meter", meter, 3).due(NONE, "meter", meter, 4).due(1, "mend", meter).due(lines[meter], "meter", meter, 3);
        }
        Sentences.sentence(7, "SORTS say which LINES one may serve for, of those that are not CUT");
        for (int line = 0; line < 9; line++) {
            all.then("cut", line);
        }
        all.due(512, "meter", 0, 3).due(512, "meter", 1, 3).due(512, "meter", 2, 3).due(512, "meter", 3, 3).due(0, "meter", 4, 3);
        all.then("cut", 9);
        for (int meter = 0; meter < 5; meter++) {
            all.due(0, "meter", meter, 3);
        }
    }

    private static void servedLine() {
        Sentences.sentence(7, "LINES for which it may serve (3, bits), the LINE that it SERVES (4; NONE)");
        Case ten = new Case("grid 3;" + times("line 0 1", 9) + ";line 1 2;flow 0;flow 9;flow 8");
        ten.due(0, "meter", 0, 4).due(9, "meter", 1, 4).due(NONE, "meter", 2, 4);
        ten.then("cut", 0).due(NONE, "meter", 0, 4).due(8, "meter", 2, 4);
        new Case("node 0").due(NONE, "meter", 0, 4);
        new Case("line 0 1;" + times("node 0", 9)).due(0, "meter", 0, 4).due(NONE, "meter", 1, 4).due(NONE, "meter", 8, 4);
    }

    private static void critical() {
        Sentences.sentence(7, "CRITICAL: a METER, not BROKEN, without which RANK would be less.");
        new Case("node 0").due(0, "meter", 0, 5);
        Case two = new Case("line 0 1;line 1 2;node 0;node 0;flow 1");
        two.quiet(0, "meter", 0, 5).quiet(0, "meter", 1, 5).quiet(1, "meter", 2, 5);
        two.then("spoil", 0).due(0, "meter", 0, 5).due(1, "meter", 1, 5).due(1, "meter", 2, 5);
        two.then("spoil", 1).due(0, "meter", 1, 5).due(1, "meter", 2, 5);
        two.then("cut", 1).due(0, "meter", 2, 5);
        Case nine = new Case("grid 8;" + ROW.substring(7) + ";flow0;flow1;flow2;flow3;flow4;flow5;flow6;dull 0");
        nine.then("put", 0, 6);
        nine.due(1, "meter", 0, 5).due(1, "meter", 5, 5).due(0, "meter", 6, 5).due(0, "meter", 7, 5).due(0, "meter", 8, 5);
    }

    private static void whichMeter() {
        Sentences.sentence(7, "1 it is CRITICAL (5). UNKNOWN; OUTSIDE.");
        for (int meters : new int[] {0, 1, 8, 9}) {
            Case told = new Case(meters == 0 ? "line 0 1" : "line 0 1;" + times("node 1", meters));
            for (int what : new int[] {0, 5, -1, 6, LEAST, MOST}) {
                told.refusedFirst(UNKNOWN, Sentences.outside(0, meters - 1), "meter", what);
            }
            for (int meter = 0; meter < meters; meter++) {
                told.quiet(2, "meter", meter, 0).refused(OUTSIDE, "meter", meter, 6);
            }
        }
        Case rich = new Case(ROW + ";wide 3;node 5").then("put", 0, 0).then("cut", 3).then("spoil", 1);
        for (int meter = 0; meter < 3; meter++) {
            rich.refusedLast(OUTSIDE, Sentences.outside(0, 5), "meter", meter);
        }
        rich.then("undo").then("undo").then("undo").refused(UNKNOWN, "meter", 2, 0);
    }

    private static void offers() {
        Sentences.sentence(8, "Of an OFFER: SORT (what 0), AT (1), PRICE (2), by how much it BRINGS (3).");
        Case six = new Case("grid 8;" + TEN_ALIKE, "offer 0 0 1;offer 1 9 9;offer 2 7 2;offer 3 0 8;offer 4 7 1;offer 0 9 9");
        int[] sorts = {0, 1, 2, 3, 4, 0};
        int[] places = {0, 9, 7, 0, 7, 9};
        int[] prices = {1, 9, 2, 8, 1, 9};
        int[] brings = {1, 1, 0, 1, 0, 1};
        for (int offer = 0; offer < 6; offer++) {
            six.due(sorts[offer], "offer", offer, 0).due(places[offer], "offer", offer, 1);
            six.due(prices[offer], "offer", offer, 2).quiet(brings[offer], "offer", offer, 3);
        }
        six.then("put", 0, 5);
        for (int offer = 0; offer < 6; offer++) {
            six.due(0, "offer", offer, 3);
        }
        six.then("cut", 5).due(1, "offer", 0, 3).then("cut", 0).due(0, "offer", 0, 3).due(1, "offer", 5, 3);
        // beside nine meters one more can still be foretold
        new Case("grid 3;line 0 1;line 1 2;" + times("flow 0", 9) + ";offer 0 1 1;offer 0 0 1").due(1, "offer", 0, 3).due(0, "offer", 1, 3);
    }

    private static void whichOffer() {
        Sentences.sentence(8, "by how much it BRINGS (3). UNKNOWN; OUTSIDE.");
        for (int offers : new int[] {0, 1, 5, 6}) {
            Case told = new Case(offers == 0 ? "line 0 1" : "line 0 1;" + times("offer 2 1 7", offers));
            for (int what : new int[] {0, 3, -1, 4, LEAST, MOST}) {
                told.refusedFirst(UNKNOWN, Sentences.outside(0, offers - 1), "offer", what);
            }
            for (int offer = 0; offer < offers; offer++) {
                told.quiet(7, "offer", offer, 2).refused(OUTSIDE, "offer", offer, 4);
            }
            if (offers > 0) {
                told.refusedLast(OUTSIDE, Sentences.outside(0, 3), "offer", 0);
                told.refusedLast(OUTSIDE, Sentences.outside(0, 3), "offer", offers - 1);
            }
        }
    }
}
