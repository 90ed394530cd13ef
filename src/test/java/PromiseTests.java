/** For each promise of the document: ordinary inputs, the edges that it names, wrong inputs; answers found by hand. */
public final class PromiseTests {
    private static int wrong = 0;
    private static int checked = 0;
    private static int promise = 0;

    public static void main(String[] args) {
        newObject();
        write();
        erase();
        faultOfWords();
        faultOfNumbers();
        faultOfLimits();
        grid();
        gridClearsAndStays();
        line();
        meter();
        meterWithCuts();
        offer();
        put();
        spoilAndMend();
        cut();
        undo();
        undoEachDeed();
        keepAndBack();
        island();
        weak();
        deal();
        lost();
        brings();
        seenAndForget();
        fit();
        ask();
        tray();
        lay();
        take();
        all();
        drop();
        count();
        serves();
        System.out.println(checked + " answers looked at, " + wrong + " not as due");
        if (wrong != 0) {
            System.exit(1);
        }
    }

    private static void due(String call, int got, int want) {
        checked++;
        if (got != want) {
            wrong++;
            System.out.println("promise " + promise + ": " + call + " answered " + got + ", due is " + want);
        }
    }

    private static void type(MeterDesk x, String text) {
        for (int i = 0; i < text.length(); i++) {
            x.write(text.charAt(i));
        }
    }

    private static MeterDesk told(String text) {
        MeterDesk x = new MeterDesk();
        tell(x, text);
        return x;
    }

    private static void tell(MeterDesk x, String text) {
        type(x, text);
        due("fault() of " + text, x.fault(), MeterDesk.NONE);
        int clauses = 1;
        for (int i = 0; i < text.length(); i++) {
            clauses += text.charAt(i) == ';' ? 1 : 0;
        }
        due("grid() of " + text, x.grid(), clauses);
    }

    /** On a new object, to which other texts were told ahead. */
    private static void faulty(String text, int place, String... ahead) {
        MeterDesk x = new MeterDesk();
        for (String other : ahead) {
            tell(x, other);
        }
        type(x, text);
        due("fault() of " + text, x.fault(), place);
        if (place != MeterDesk.NONE) {
            due("grid() of " + text, x.grid(), MeterDesk.NOT);
            due("count(12) behind grid() of " + text, x.count(12), text.length());
        }
    }

    private static String times(String part, int n, String between) {
        StringBuilder b = new StringBuilder();
        for (int i = 0; i < n; i++) {
            b.append(i == 0 ? "" : between).append(part);
        }
        return b.toString();
    }

    private static void newObject() {
        promise = 1;
        MeterDesk x = new MeterDesk();
        int[] want = {3, 0, 0, 0, 0, 0, 0, 0, 0, 0, 0, 0, 0, 3};
        for (int what = 0; what < want.length; what++) {
            due("count(" + what + ")", x.count(what), want[what]);
        }
        for (int tray = 0; tray < 3; tray++) {
            due("all", x.all(tray, 0), MeterDesk.NULL);
        }
        due("back(0)", x.back(0), MeterDesk.NOT);
        due("undo()", x.undo(), MeterDesk.NOT);
        due("island(2)", x.island(2), 4);
    }

    private static void write() {
        promise = 2;
        MeterDesk x = new MeterDesk();
        due("write(-1)", x.write(-1), MeterDesk.OUTSIDE);
        due("write(256)", x.write(256), MeterDesk.OUTSIDE);
        due("write(min)", x.write(Integer.MIN_VALUE), MeterDesk.OUTSIDE);
        due("count(12)", x.count(12), 0);
        due("write(0)", x.write(0), 1);
        due("write(255)", x.write(255), 2);
        for (int i = 3; i <= 200; i++) {
            due("write", x.write('a'), i);
        }
        due("write full", x.write('a'), MeterDesk.FULL);
        due("write full and outside", x.write(256), MeterDesk.OUTSIDE);
        due("count(12)", x.count(12), 200);
    }

    private static void erase() {
        promise = 3;
        MeterDesk x = new MeterDesk();
        due("erase()", x.erase(), 0);
        type(x, "grid 4");
        due("erase()", x.erase(), 6);
        due("count(12)", x.count(12), 0);
        due("erase()", x.erase(), 0);
        due("write", x.write('g'), 1);
    }

    private static void faultOfWords() {
        promise = 4;
        faulty("", 0);
        faulty("   ", 3);
        faulty(";", 0);
        faulty("grid", 4);
        faulty("grid  ", 6);
        faulty("gri 4", 0);
        faulty("grids 4", 0);
        faulty("Grid 4", 0);
        faulty("4", 0);
        faulty("grid 4 grid 4", 7);
        faulty("grid 4,", 6);
        faulty("grid 4;", 7);
        faulty("grid 4; ;", 8);
        faulty("grid 4;node", 11);
        faulty("grid ;", 5);
        faulty("grid x4", 5);
        faulty("grid 4x", 6);
        faulty("grid\t4", 4);
        faulty("gridz 4", 0);
        faulty("agrid 4", 0);
        faulty("grid 4z", 6);
        faulty("grid`4", 4);
        faulty("grid{4", 4);
        faulty("grid 4/", 6);
        faulty("grid 4:", 6);
        faulty("grid 4;met 0", 7);
        faulty("grid 4" + (char) 233, 6);
        faulty("grid -4", 5);
        faulty("grid 4", MeterDesk.NONE);
        faulty("  grid   4  ;  node   3  ", MeterDesk.NONE);
        faulty("grid4;node3", MeterDesk.NONE);
        faulty("grid 04;node 03", MeterDesk.NONE);
        MeterDesk x = new MeterDesk();
        type(x, "grid 4");
        due("fault()", x.fault(), MeterDesk.NONE);
        due("count(0): fault() does nothing", x.count(0), 3);
    }

    private static void faultOfNumbers() {
        promise = 4;
        faulty("grid 1", 5);
        faulty("grid 2", MeterDesk.NONE);
        faulty("grid 8", MeterDesk.NONE);
        faulty("grid 9", 5);
        faulty("grid 004", 5);
        faulty("line 3 0", 5);
        faulty("line 0 3", 7);
        faulty("line 2 2", 7);
        faulty("line 2 02", 7);
        faulty("line 01", 7);
        faulty("line 2 0", MeterDesk.NONE);
        faulty("grid 4;line 0 3", MeterDesk.NONE);
        faulty("line 0 1;flow 1", 14);
        faulty("line 0 1;flow 0;pair 0", MeterDesk.NONE);
        faulty("flow 0;line 0 1", 5);
        faulty("line 0 1;grid 3;flow 0", 21);
        faulty("node 3", 5);
        faulty("wide 3", 5);
        faulty("dull 3", 5);
        faulty("node 2;wide 2;dull 2", MeterDesk.NONE);
        faulty("offer 5 0 1", 6);
        faulty("offer 4 3 1", 8);
        faulty("offer 1 0 1", 8);
        faulty("offer 2 0 0", 10);
        faulty("offer 2 0 10", 10);
        faulty("offer 2 0", 9);
        faulty("offer 2 0 9", MeterDesk.NONE);
        faulty("line 1 2;offer 1 0 1", MeterDesk.NONE);
    }

    private static void faultOfLimits() {
        promise = 4;
        String lines = times("line 0 1", 10, ";");
        faulty(lines, MeterDesk.NONE);
        faulty(lines + ";line", 90);
        faulty(lines + ";line 0 1", 90);
        faulty(lines + ";grid 2;line 0 1", MeterDesk.NONE);
        String meters = times("node 0", 9, ";");
        faulty(meters, MeterDesk.NONE);
        faulty(meters + ";node 0", 63);
        faulty(meters + "; wide 0", 64);
        faulty(meters + ";grid 3;node 0", MeterDesk.NONE);
        String offers = times("offer 2 0 1", 6, ";");
        faulty(offers, MeterDesk.NONE);
        faulty(offers + ";offer 2 0 1", 72);
        faulty(offers + ";grid 3;offer 2 0 1", MeterDesk.NONE);
        String clauses = times("grid 2", 24, ";");
        faulty(clauses, MeterDesk.NONE);
        faulty(clauses + ";grid 2", 167);
        faulty(clauses + ";", 167);
        faulty(clauses + "  ", MeterDesk.NONE);
        faulty("line 0 1", 0, lines);
        faulty("flow 0", 0, lines, meters);
        faulty("offer 0 0 1", 0, lines, offers);
    }

    private static void grid() {
        promise = 5;
        MeterDesk x = new MeterDesk();
        due("grid() of nothing", x.grid(), MeterDesk.NOT);
        tell(x, "grid 5;line 4 0;flow 0;offer 3 1 7");
        due("count(0)", x.count(0), 5);
        due("count(1)", x.count(1), 1);
        due("count(2)", x.count(2), 1);
        due("count(3)", x.count(3), 1);
        due("count(12)", x.count(12), 0);
        tell(x, "line 1 2;pair 1;node 4");
        due("count(0)", x.count(0), 5);
        due("count(1)", x.count(1), 2);
        due("count(2)", x.count(2), 3);
        due("count(3)", x.count(3), 1);
        due("meter(1, 1)", x.meter(1, 1), 1);
        tell(x, "grid 2;line 1 0");
        due("count(0)", x.count(0), 2);
        due("count(1)", x.count(1), 1);
        due("count(2)", x.count(2), 0);
        due("count(3)", x.count(3), 0);
        tell(x, "line 0 1;grid 4");
        due("count(0)", x.count(0), 4);
        due("count(1)", x.count(1), 0);
        tell(x, times("grid 2", 24, ";"));
    }

    private static void gridClearsAndStays() {
        promise = 5;
        MeterDesk x = told("grid 4;line 0 1;line 1 2;flow 0;flow 1");
        x.put(2, 3);
        x.cut(1);
        x.spoil(0);
        x.keep(0);
        x.keep(1);
        x.tray(0);
        x.lay(0, 0, 5);
        x.seen(1, 3);
        tell(x, "node 0");
        due("count(2): none that was put in", x.count(2), 3);
        due("meter(2, 1)", x.meter(2, 1), 0);
        due("line(1, 2): not cut", x.line(1, 2), 0);
        due("count(8): none broken", x.count(8), 0);
        due("undo()", x.undo(), MeterDesk.NOT);
        due("back(0)", x.back(0), MeterDesk.NOT);
        due("back(1)", x.back(1), MeterDesk.NOT);
        due("count(10)", x.count(10), 0);
        due("all(0, 0)", x.all(0, 0), MeterDesk.NULL);
        due("count(4)", x.count(4), 2);
        due("count(9): what was seen stays", x.count(9), 1);
        x.tray(1);
        type(x, "grid 4;");
        due("grid() with a fault", x.grid(), MeterDesk.NOT);
        due("count(12)", x.count(12), 7);
        due("count(1)", x.count(1), 2);
        due("all(1, 0)", x.all(1, 0), 0);
    }

    private static void line() {
        promise = 6;
        MeterDesk x = told("grid 4;line 3 1;line 1 2;line 2 3;line 0 1;flow 2;node 1");
        due("line(0, 0)", x.line(0, 0), 1);
        due("line(0, 1)", x.line(0, 1), 3);
        due("line(3, 0)", x.line(3, 0), 0);
        due("line(3, 1)", x.line(3, 1), 1);
        // the tree is 2 with the flow meter and 0 with the node meter
        due("line(0, 3)", x.line(0, 3), 1);
        due("line(1, 3)", x.line(1, 3), 0);
        due("line(2, 3)", x.line(2, 3), 1);
        due("line(0, 4)", x.line(0, 4), 1);
        due("line(1, 4)", x.line(1, 4), MeterDesk.NONE);
        due("line(2, 4)", x.line(2, 4), 0);
        due("line(0, 2)", x.line(0, 2), 0);
        x.cut(0);
        due("line(0, 2)", x.line(0, 2), 1);
        due("line(0, 3)", x.line(0, 3), 0);
        due("line(1, 3)", x.line(1, 3), 1);
        due("line(1, 4)", x.line(1, 4), 1);
        due("line(-1, 0)", x.line(-1, 0), MeterDesk.UNKNOWN);
        due("line(4, 0)", x.line(4, 0), MeterDesk.UNKNOWN);
        due("line(4, 9)", x.line(4, 9), MeterDesk.UNKNOWN);
        due("line(0, -1)", x.line(0, -1), MeterDesk.OUTSIDE);
        due("line(0, 5)", x.line(0, 5), MeterDesk.OUTSIDE);
    }

    /** Lines 0: 0-1, 1: 1-2, 2: 1-2, 3: 2-3, 4: 3-4. */
    private static MeterDesk path(String more) {
        return told("grid 5;line 0 1;line 1 2;line 2 1;line 2 3;line 3 4" + more);
    }

    private static void meter() {
        promise = 7;
        MeterDesk x = path(";flow 1;pair 1;node 1;wide 0;dull 2;wide 3");
        int[] sorts = {0, 1, 2, 3, 4, 3};
        int[] places = {1, 1, 1, 0, 2, 3};
        int[] lines = {2, 6, 7, 7, 12, 30};
        for (int m = 0; m < 6; m++) {
            due("meter(" + m + ", 0)", x.meter(m, 0), sorts[m]);
            due("meter(" + m + ", 1)", x.meter(m, 1), places[m]);
            due("meter(" + m + ", 2)", x.meter(m, 2), 0);
            due("meter(" + m + ", 3)", x.meter(m, 3), lines[m]);
        }
        // the tree is 0, 1, 3, 4: 0 and 1 by the least that leave one for 3 (4 or 5) and one for 4 (5 alone)
        due("count(6)", x.count(6), 27);
        due("meter(2, 4)", x.meter(2, 4), 0);
        due("meter(0, 4)", x.meter(0, 4), 1);
        due("meter(4, 4)", x.meter(4, 4), 3);
        due("meter(5, 4)", x.meter(5, 4), 4);
        due("meter(1, 4)", x.meter(1, 4), MeterDesk.NONE);
        due("meter(5, 5)", x.meter(5, 5), 1);
        due("meter(4, 5)", x.meter(4, 5), 1);
        due("meter(2, 5)", x.meter(2, 5), 0);
        due("meter(0, 5)", x.meter(0, 5), 0);
        x.spoil(5);
        due("meter(5, 2)", x.meter(5, 2), 1);
        due("meter(5, 3)", x.meter(5, 3), 0);
        due("meter(5, 4)", x.meter(5, 4), MeterDesk.NONE);
        due("meter(5, 5)", x.meter(5, 5), 0);
        due("meter(-1, 0)", x.meter(-1, 0), MeterDesk.UNKNOWN);
        due("meter(6, 7)", x.meter(6, 7), MeterDesk.UNKNOWN);
        due("meter(0, -1)", x.meter(0, -1), MeterDesk.OUTSIDE);
        due("meter(0, 6)", x.meter(0, 6), MeterDesk.OUTSIDE);
    }

    private static void meterWithCuts() {
        promise = 7;
        MeterDesk x = path(";flow 1;pair 1;node 1;wide 1;dull 2;dull 0");
        due("dull with one line", x.meter(5, 3), 0);
        due("wide at 1", x.meter(3, 3), 15);
        x.cut(1);
        due("flow on a line that is cut", x.meter(0, 3), 0);
        due("pair on a line that is cut", x.meter(1, 3), 4);
        due("node", x.meter(2, 3), 5);
        due("wide, by the line beside", x.meter(3, 3), 13);
        due("dull: the least of those that are not cut", x.meter(4, 3), 8);
        x.cut(2);
        due("wide: a line that is cut leads nowhere", x.meter(3, 3), 1);
        due("dull with one left", x.meter(4, 3), 0);
        due("pair with both cut", x.meter(1, 3), 0);
    }

    private static void offer() {
        promise = 8;
        MeterDesk x = path(";flow 0;flow 0;offer 0 0 4;offer 3 4 9;offer 1 1 1");
        due("offer(0, 0)", x.offer(0, 0), 0);
        due("offer(0, 1)", x.offer(0, 1), 0);
        due("offer(0, 2)", x.offer(0, 2), 4);
        due("offer(0, 3)", x.offer(0, 3), 0);
        due("offer(1, 0)", x.offer(1, 0), 3);
        due("offer(1, 1)", x.offer(1, 1), 4);
        due("offer(1, 2)", x.offer(1, 2), 9);
        due("offer(1, 3)", x.offer(1, 3), 1);
        due("offer(2, 3)", x.offer(2, 3), 1);
        x.cut(1);
        x.cut(2);
        due("offer(2, 3), its lines cut", x.offer(2, 3), 0);
        due("offer(-1, 0)", x.offer(-1, 0), MeterDesk.UNKNOWN);
        due("offer(3, 9)", x.offer(3, 9), MeterDesk.UNKNOWN);
        due("offer(0, -1)", x.offer(0, -1), MeterDesk.OUTSIDE);
        due("offer(0, 4)", x.offer(0, 4), MeterDesk.OUTSIDE);
    }

    private static void put() {
        promise = 9;
        MeterDesk x = path(";flow 0");
        due("put(0, 5)", x.put(0, 5), MeterDesk.UNKNOWN);
        due("put(1, -1)", x.put(1, -1), MeterDesk.UNKNOWN);
        due("put(2, 5)", x.put(2, 5), MeterDesk.UNKNOWN);
        due("put(4, -1)", x.put(4, -1), MeterDesk.UNKNOWN);
        due("put(-1, 0)", x.put(-1, 0), MeterDesk.OUTSIDE);
        due("put(5, 0)", x.put(5, 0), MeterDesk.OUTSIDE);
        due("count(11)", x.count(11), 0);
        due("put(0, 4)", x.put(0, 4), 1);
        due("meter(1, 0)", x.meter(1, 0), 0);
        due("meter(1, 1)", x.meter(1, 1), 4);
        due("count(4)", x.count(4), 2);
        due("put(4, 4)", x.put(4, 4), 2);
        for (int m = 3; m < 9; m++) {
            due("put(2, 4)", x.put(2, 4), m);
        }
        due("put(2, 4), full", x.put(2, 4), MeterDesk.FULL);
        due("put(5, 0), full", x.put(5, 0), MeterDesk.OUTSIDE);
        due("put(2, 5), full", x.put(2, 5), MeterDesk.UNKNOWN);
        due("count(2)", x.count(2), 9);
        due("count(11)", x.count(11), 8);
    }

    private static void spoilAndMend() {
        promise = 10;
        MeterDesk x = path(";flow 0;flow 4;node 4");
        due("spoil(3)", x.spoil(3), MeterDesk.UNKNOWN);
        due("spoil(-1)", x.spoil(-1), MeterDesk.UNKNOWN);
        due("spoil(1): the other serves", x.spoil(1), 2);
        due("spoil(1) again", x.spoil(1), MeterDesk.NOT);
        due("spoil(2)", x.spoil(2), 1);
        due("spoil(0)", x.spoil(0), 0);
        due("count(8)", x.count(8), 7);
        promise = 11;
        due("mend(3)", x.mend(3), MeterDesk.UNKNOWN);
        due("mend(-1)", x.mend(-1), MeterDesk.UNKNOWN);
        due("mend(1)", x.mend(1), 1);
        due("mend(1) again", x.mend(1), MeterDesk.NOT);
        due("mend(2)", x.mend(2), 1);
        due("mend(0)", x.mend(0), 2);
        due("count(8)", x.count(8), 0);
        due("count(11)", x.count(11), 6);
    }

    private static void cut() {
        promise = 12;
        MeterDesk x = path(";pair 1;flow 3;node 0");
        due("cut(5)", x.cut(5), MeterDesk.UNKNOWN);
        due("cut(-1)", x.cut(-1), MeterDesk.UNKNOWN);
        due("count(5)", x.count(5), 4);
        due("cut(1): the one beside", x.cut(1), 3);
        due("count(5)", x.count(5), 4);
        due("cut(1) again", x.cut(1), MeterDesk.NOT);
        due("cut(2)", x.cut(2), 2);
        due("count(5): two parts", x.count(5), 3);
        due("cut(0)", x.cut(0), 1);
        due("cut(3)", x.cut(3), 0);
        due("cut(4)", x.cut(4), 0);
        due("count(5)", x.count(5), 0);
        due("count(13)", x.count(13), 5);
    }

    private static void undo() {
        promise = 13;
        MeterDesk x = path("");
        due("undo()", x.undo(), MeterDesk.NOT);
        for (int m = 0; m < 9; m++) {
            x.put(2, 0);
        }
        x.put(2, 0);
        due("count(11)", x.count(11), 8);
        for (int left = 7; left >= 0; left--) {
            due("undo()", x.undo(), left);
        }
        due("undo()", x.undo(), MeterDesk.NOT);
        due("count(2): the first can't be undone", x.count(2), 1);
    }

    private static void undoEachDeed() {
        promise = 13;
        MeterDesk x = path(";flow 0");
        x.put(0, 3);
        x.spoil(0);
        x.mend(0);
        x.cut(3);
        x.cut(3);
        x.mend(1);
        due("count(11): what was refused is no deed", x.count(11), 4);
        due("count(4)", x.count(4), 1);
        due("undo() of cut", x.undo(), 3);
        due("line(3, 2)", x.line(3, 2), 0);
        due("count(4)", x.count(4), 2);
        due("undo() of mend", x.undo(), 2);
        due("meter(0, 2)", x.meter(0, 2), 1);
        due("count(4)", x.count(4), 1);
        due("undo() of spoil", x.undo(), 1);
        due("meter(0, 2)", x.meter(0, 2), 0);
        due("count(4)", x.count(4), 2);
        due("undo() of put", x.undo(), 0);
        due("count(2)", x.count(2), 1);
        due("count(4)", x.count(4), 1);
        due("undo()", x.undo(), MeterDesk.NOT);
    }

    private static void keepAndBack() {
        promise = 14;
        MeterDesk x = path(";flow 0;flow 1");
        due("keep(-1)", x.keep(-1), MeterDesk.UNKNOWN);
        due("keep(2)", x.keep(2), MeterDesk.UNKNOWN);
        due("keep(0)", x.keep(0), 2);
        x.put(0, 3);
        x.cut(1);
        x.spoil(0);
        due("keep(1)", x.keep(1), 1);
        due("count(11): still so", x.count(11), 3);
        promise = 15;
        due("back(-1)", x.back(-1), MeterDesk.UNKNOWN);
        due("back(2)", x.back(2), MeterDesk.UNKNOWN);
        due("back(0)", x.back(0), 2);
        due("count(2)", x.count(2), 2);
        due("count(8)", x.count(8), 0);
        due("line(1, 2)", x.line(1, 2), 0);
        due("undo()", x.undo(), MeterDesk.NOT);
        x.put(2, 4);
        due("back(1)", x.back(1), 1);
        due("count(2)", x.count(2), 3);
        due("meter(2, 1)", x.meter(2, 1), 3);
        due("count(8)", x.count(8), 1);
        due("line(1, 2)", x.line(1, 2), 1);
        due("count(11)", x.count(11), 0);
        due("back(0), kept still", x.back(0), 2);
        due("keep(1) anew", x.keep(1), 2);
        x.spoil(1);
        due("back(1)", x.back(1), 2);
        tell(x, "node 3");
        due("back(0) behind a text", x.back(0), MeterDesk.NOT);
        due("keep(0)", x.keep(0), 3);
        due("back(0)", x.back(0), 3);
        due("back(1)", x.back(1), MeterDesk.NOT);
    }

    private static void island() {
        promise = 16;
        MeterDesk x = path(";flow 0;flow 4");
        due("island(0)", x.island(0), 3);
        due("island(1)", x.island(1), 3);
        due("island(2)", x.island(2), 4);
        due("island(3)", x.island(3), 24);
        due("island(4)", x.island(4), 24);
        due("count(13)", x.count(13), 3);
        x.put(0, 2);
        due("island(2)", x.island(2), 7);
        x.cut(2);
        due("island(2)", x.island(2), 4);
        due("island(-1)", x.island(-1), MeterDesk.UNKNOWN);
        due("island(5)", x.island(5), MeterDesk.UNKNOWN);
    }

    private static void weak() {
        promise = 17;
        MeterDesk x = path("");
        due("weak(0), rank 0", x.weak(0), MeterDesk.NONE);
        due("weak(1), rank 0", x.weak(1), MeterDesk.NONE);
        due("weak(-1), rank 0", x.weak(-1), MeterDesk.OUTSIDE);
        due("weak(2)", x.weak(2), MeterDesk.OUTSIDE);
        x = path(";flow 0;flow 0;flow 0;flow 3;flow 3");
        due("weak(0)", x.weak(0), 24);
        due("weak(1)", x.weak(1), 2);
        x.spoil(0);
        due("weak(0): of two sets the least, none broken", x.weak(0), 6);
        due("weak(1)", x.weak(1), 2);
        x.spoil(4);
        due("weak(0)", x.weak(0), 8);
        due("weak(1)", x.weak(1), 1);
        x = path(";flow 0;flow 0;flow 0;flow 0;flow 0;flow 0;flow 0;flow 0;flow 0");
        due("weak(0): all nine", x.weak(0), 511);
        due("weak(1): all nine", x.weak(1), 9);
    }

    private static void deal() {
        promise = 18;
        MeterDesk x = told("grid 3;line 0 1;line 1 2;offer 0 0 4;offer 0 1 4;offer 2 1 3;offer 2 1 5;offer 1 0 9");
        // 3 and 4: with the offers 0 and 2, or 1 and 2; 8: 0 and 1, or 2 and 3
        due("deal(0)", x.deal(0), 5);
        due("deal(1)", x.deal(1), 7);
        due("deal(-1)", x.deal(-1), MeterDesk.OUTSIDE);
        due("deal(2)", x.deal(2), MeterDesk.OUTSIDE);
        x.put(0, 0);
        due("deal(0)", x.deal(0), 4);
        due("deal(1)", x.deal(1), 3);
        x.put(0, 1);
        due("deal(0), whole", x.deal(0), 0);
        due("deal(1), whole", x.deal(1), 0);
        x = told("grid 3;line 0 1;line 1 2;offer 0 0 4;offer 0 0 5");
        due("deal(0), none", x.deal(0), MeterDesk.NONE);
        due("deal(1), none", x.deal(1), MeterDesk.NONE);
        x.cut(1);
        due("deal(0): whole is less now", x.deal(0), 1);
        due("deal(1)", x.deal(1), 4);
        x = told("grid 4;line 0 1;line 0 2;line 0 3;flow 0;flow 1;offer 0 2 6;offer 3 3 6;offer 4 1 1");
        due("deal(0): of like ones the least number", x.deal(0), 1);
        x = told("grid 3;line 0 1;line 1 2;flow 0;offer 4 0 1;offer 4 2 2;offer 2 2 3;offer 2 1 3");
        due("deal(0): a dull one with one line is nothing", x.deal(0), 4);
        due("deal(1)", x.deal(1), 3);
        x = told("grid 3;line 0 1;line 1 2;offer 0 0 3;offer 0 1 3;offer 2 1 2;offer 2 1 4");
        due("deal(0)", x.deal(0), 5);
        dealsOfMany();
    }

    private static void dealsOfMany() {
        // each offer brings one at most and costs at least one: the cheapest are never more than are missing
        MeterDesk x = told("grid 2;line 0 1;line 0 1;offer 4 0 2;offer 2 0 2;offer 0 0 2");
        due("deal(0): one is enough, the least", x.deal(0), 1);
        // at full nine meters that tell nothing an offer is still one more
        x = told("grid 2;line 0 1;" + times("dull 0", 9, ";") + ";offer 0 0 9");
        due("deal(0) beside nine meters", x.deal(0), 1);
        due("deal(1) beside nine meters", x.deal(1), 9);
        x = told("grid 4;line 0 1;line 1 2;line 2 3;offer 0 0 1;offer 0 1 1;offer 0 2 1;offer 2 1 1");
        // three offers at 3 in all, whichever: the least number
        due("deal(0): three of four", x.deal(0), 7);
        due("deal(1): three of four", x.deal(1), 3);
    }

    private static void lost() {
        promise = 19;
        MeterDesk x = path(";pair 1;flow 3;node 0");
        due("lost(0)", x.lost(0), 1);
        due("lost(1): the one beside serves", x.lost(1), 0);
        due("lost(3)", x.lost(3), 1);
        due("lost(4)", x.lost(4), 0);
        due("nothing changes", x.count(4), 3);
        x.cut(1);
        due("lost(1)", x.lost(1), MeterDesk.NOT);
        due("lost(2)", x.lost(2), 1);
        due("lost(-1)", x.lost(-1), MeterDesk.UNKNOWN);
        due("lost(5)", x.lost(5), MeterDesk.UNKNOWN);
        // without line 0 the dull meter has line 1 for its least, and the wide one no way
        x = told("grid 4;line 0 1;line 1 2;line 2 3;dull 1;wide 0");
        due("count(4)", x.count(4), 2);
        due("lost(0): two meters go blind", x.lost(0), 2);
    }

    private static void brings() {
        promise = 20;
        MeterDesk x = path(";flow 0");
        due("brings(0, 0)", x.brings(0, 0), 0);
        due("brings(0, 4)", x.brings(0, 4), 1);
        due("brings(1, 2)", x.brings(1, 2), 1);
        due("brings(2, 0)", x.brings(2, 0), 0);
        due("brings(3, 0)", x.brings(3, 0), 1);
        due("brings(4, 0)", x.brings(4, 0), 0);
        due("brings(4, 4)", x.brings(4, 4), 0);
        due("brings(4, 3)", x.brings(4, 3), 1);
        due("nothing changes", x.count(2), 1);
        due("nothing can be undone", x.count(11), 0);
        due("brings(0, 5)", x.brings(0, 5), MeterDesk.UNKNOWN);
        due("brings(2, -1)", x.brings(2, -1), MeterDesk.UNKNOWN);
        due("brings(5, 0)", x.brings(5, 0), MeterDesk.OUTSIDE);
        due("brings(-1, 0)", x.brings(-1, 0), MeterDesk.OUTSIDE);
        for (int m = 1; m < 9; m++) {
            x.put(0, 0);
        }
        due("brings(0, 4) beside nine", x.brings(0, 4), 1);
    }

    private static void seenAndForget() {
        promise = 21;
        MeterDesk x = path("");
        due("seen(-1, 0)", x.seen(-1, 0), MeterDesk.OUTSIDE);
        due("seen(10, 0)", x.seen(10, 0), MeterDesk.OUTSIDE);
        due("seen(0, -1)", x.seen(0, -1), MeterDesk.OUTSIDE);
        due("seen(0, 1024)", x.seen(0, 1024), MeterDesk.OUTSIDE);
        due("seen(9, 1023)", x.seen(9, 1023), 1);
        for (int i = 2; i <= 6; i++) {
            due("seen(0, 0)", x.seen(0, 0), i);
        }
        due("seen(0, 0)", x.seen(0, 0), MeterDesk.FULL);
        due("seen(10, 0)", x.seen(10, 0), MeterDesk.OUTSIDE);
        due("count(9)", x.count(9), 6);
        promise = 22;
        due("forget()", x.forget(), 6);
        due("count(9)", x.count(9), 0);
        due("forget()", x.forget(), 0);
        due("seen(0, 0)", x.seen(0, 0), 1);
    }

    private static void fit() {
        promise = 23;
        MeterDesk x = path("");
        due("fit() of nothing", x.fit(), 31);
        x.seen(0, 1);
        due("flow, pair, node", x.fit(), 7);
        x.seen(1, 2);
        due("flow", x.fit(), 1);
        x.cut(1);
        due("none, as the grid is now", x.fit(), 0);
        x.undo();
        due("flow", x.fit(), 1);
        x.forget();
        x.seen(1, 6);
        due("pair, dull", x.fit(), 18);
        x.seen(2, 12);
        due("dull", x.fit(), 16);
        x.forget();
        x.seen(5, 0);
        due("none can be there", x.fit(), 0);
        x.forget();
        x.seen(4, 0);
        due("dull", x.fit(), 16);
        x.cut(4);
        due("on a line that is cut, at a node without one", x.fit(), 31);
        tell(x, "grid 2");
        due("no such node any more", x.fit(), 0);
    }

    private static void ask() {
        promise = 24;
        MeterDesk x = path("");
        // at 0: 1 1 1 7 0; at 1: 2 6 7 15 6; at 2: 4 6 14 31 12: none alike
        due("ask()", x.ask(), 2);
        x.seen(1, 6);
        // pair and dull: at 0 already 1 and 0
        due("ask()", x.ask(), 0);
        x.seen(0, 1);
        due("ask(): one is left", x.ask(), MeterDesk.NONE);
        x.seen(0, 2);
        due("ask(): none is left", x.ask(), MeterDesk.NONE);
        x = told("grid 2;line 0 1");
        // at 0: 1 1 1 1 0; at 1: a line can't be there: 0 0 1 1 0
        due("ask()", x.ask(), 1);
        x.seen(1, 1);
        due("ask(): node and wide are alike everywhere", x.ask(), MeterDesk.NONE);
        x = new MeterDesk();
        due("ask() without lines", x.ask(), MeterDesk.NONE);
        x = told("grid 4;" + times("line 0 1", 9, ";") + ";line 2 3");
        for (int line = 0; line < 9; line++) {
            x.cut(line);
        }
        x.seen(2, 0);
        due("flow, pair, dull", x.fit(), 19);
        due("ask(): only line 9 is left to tell them by", x.ask(), 9);
    }

    private static void tray() {
        promise = 25;
        MeterDesk x = new MeterDesk();
        due("tray(-1)", x.tray(-1), MeterDesk.UNKNOWN);
        due("tray(3)", x.tray(3), MeterDesk.UNKNOWN);
        due("tray(0)", x.tray(0), 0);
        due("tray(2)", x.tray(2), 0);
        due("lay(2, 0, 4)", x.lay(2, 0, 4), 1);
        due("lay(1, 0, 4)", x.lay(1, 0, 4), MeterDesk.NULL);
        due("tray(2) anew", x.tray(2), 0);
        due("all(2, 0)", x.all(2, 0), 0);
        due("take(2, 0)", x.take(2, 0), MeterDesk.EMPTY);
    }

    private static void lay() {
        promise = 26;
        MeterDesk x = path(";flow 0;flow 1");
        due("lay(-1, 0, 0)", x.lay(-1, 0, 0), MeterDesk.UNKNOWN);
        due("lay(3, 5, 0)", x.lay(3, 5, 0), MeterDesk.UNKNOWN);
        due("lay(0, 2, 2)", x.lay(0, 2, 2), MeterDesk.UNKNOWN);
        due("lay(0, 2, -1)", x.lay(0, 2, -1), MeterDesk.UNKNOWN);
        due("lay(0, -1, 0)", x.lay(0, -1, 0), MeterDesk.OUTSIDE);
        due("lay(0, 3, 0)", x.lay(0, 3, 0), MeterDesk.OUTSIDE);
        due("lay(0, 0, -1)", x.lay(0, 0, -1), MeterDesk.OUTSIDE);
        due("lay(0, 0, 100)", x.lay(0, 0, 100), MeterDesk.OUTSIDE);
        due("lay(0, 1, -10000)", x.lay(0, 1, -10000), MeterDesk.OUTSIDE);
        due("lay(0, 1, 10000)", x.lay(0, 1, 10000), MeterDesk.OUTSIDE);
        due("lay(0, 0, 0)", x.lay(0, 0, 0), MeterDesk.NULL);
        x.tray(0);
        due("lay(0, 0, 0)", x.lay(0, 0, 0), 1);
        due("lay(0, 0, 99)", x.lay(0, 0, 99), 2);
        due("lay(0, 1, -9999)", x.lay(0, 1, -9999), 3);
        due("lay(0, 1, 9999)", x.lay(0, 1, 9999), 4);
        due("lay(0, 2, 0)", x.lay(0, 2, 0), 5);
        x.put(2, 0);
        due("lay(0, 2, 2), one put in", x.lay(0, 2, 2), 6);
        due("lay(0, 2, 1)", x.lay(0, 2, 1), 7);
        due("lay(0, 2, 1)", x.lay(0, 2, 1), 8);
        due("lay(0, 2, 1)", x.lay(0, 2, 1), MeterDesk.ROOM);
        due("lay(0, 0, 100), no room", x.lay(0, 0, 100), MeterDesk.OUTSIDE);
        due("lay(0, 2, 3), no room", x.lay(0, 2, 3), MeterDesk.UNKNOWN);
        due("count(10)", x.count(10), 8);
    }

    private static void take() {
        promise = 27;
        MeterDesk x = path(";flow 0");
        due("take(-1, 0)", x.take(-1, 0), MeterDesk.UNKNOWN);
        due("take(3, 3)", x.take(3, 3), MeterDesk.UNKNOWN);
        due("take(0, 3)", x.take(0, 3), MeterDesk.OUTSIDE);
        due("take(0, -1)", x.take(0, -1), MeterDesk.OUTSIDE);
        due("take(0, 0)", x.take(0, 0), MeterDesk.NULL);
        x.tray(0);
        due("take(0, 0)", x.take(0, 0), MeterDesk.EMPTY);
        x.lay(0, 0, 7);
        x.lay(0, 1, -9999);
        x.put(2, 4);
        x.lay(0, 2, 1);
        x.undo();
        due("take(0, 0)", x.take(0, 0), MeterDesk.CAST);
        due("take(0, 1)", x.take(0, 1), MeterDesk.CAST);
        due("take(0, 2): its number as it was laid", x.take(0, 2), 1);
        due("take(0, 2)", x.take(0, 2), MeterDesk.CAST);
        due("take(0, 1)", x.take(0, 1), 40001);
        due("take(0, 1)", x.take(0, 1), MeterDesk.CAST);
        due("take(0, 0)", x.take(0, 0), 7);
        due("take(0, 0)", x.take(0, 0), MeterDesk.EMPTY);
        x.lay(0, 1, 9999);
        due("take(0, 1)", x.take(0, 1), 59999);
    }

    private static void all() {
        promise = 28;
        MeterDesk x = path(";flow 0;flow 1;flow 2");
        due("all(-1, 0)", x.all(-1, 0), MeterDesk.UNKNOWN);
        due("all(3, 3)", x.all(3, 3), MeterDesk.UNKNOWN);
        due("all(1, 3)", x.all(1, 3), MeterDesk.OUTSIDE);
        due("all(1, -1)", x.all(1, -1), MeterDesk.OUTSIDE);
        due("all(1, 0)", x.all(1, 0), MeterDesk.NULL);
        x.tray(1);
        due("all(1, 0)", x.all(1, 0), 0);
        due("all(1, 1)", x.all(1, 1), 500000);
        due("all(1, 2)", x.all(1, 2), 0);
        x.lay(1, 0, 50);
        x.lay(1, 1, -300);
        x.lay(1, 2, 2);
        x.lay(1, 0, 50);
        x.lay(1, 2, 0);
        x.lay(1, 1, 7);
        x.lay(1, 2, 2);
        due("all(1, 0)", x.all(1, 0), 2);
        due("all(1, 1)", x.all(1, 1), 499707);
        due("all(1, 2)", x.all(1, 2), 5);
        due("count(10): all stay", x.count(10), 7);
    }

    private static void drop() {
        promise = 29;
        MeterDesk x = new MeterDesk();
        due("drop(-1)", x.drop(-1), MeterDesk.UNKNOWN);
        due("drop(3)", x.drop(3), MeterDesk.UNKNOWN);
        due("drop(2)", x.drop(2), MeterDesk.NULL);
        x.tray(2);
        due("drop(2)", x.drop(2), 0);
        x.tray(2);
        x.lay(2, 0, 1);
        x.lay(2, 0, 1);
        due("drop(2)", x.drop(2), 2);
        due("drop(2)", x.drop(2), MeterDesk.NULL);
        due("lay(2, 0, 1)", x.lay(2, 0, 1), MeterDesk.NULL);
        due("count(10)", x.count(10), 0);
        x.tray(2);
        due("all(2, 0)", x.all(2, 0), 0);
    }

    private static void count() {
        promise = 30;
        MeterDesk x = path(";flow 4;flow 1;pair 1;node 4;offer 2 0 1;offer 2 1 1");
        x.spoil(1);
        x.cut(0);
        x.seen(0, 0);
        x.tray(0);
        x.tray(2);
        x.lay(0, 0, 1);
        x.lay(2, 0, 1);
        x.lay(2, 1, 1);
        type(x, "abc");
        // line 4 by the flow meter, line 1 by the pair meter
        int[] want = {5, 5, 4, 2, 2, 3, 18, 8, 2, 1, 3, 2, 3, 3};
        for (int what = 0; what < want.length; what++) {
            due("count(" + what + ")", x.count(what), want[what]);
        }
        due("count(-1)", x.count(-1), MeterDesk.OUTSIDE);
        wholeRow();
        due("count(14)", x.count(14), MeterDesk.OUTSIDE);
    }

    /** The longest tree, and one whose lines are the last ones. */
    private static void wholeRow() {
        String row = "line 0 1;line 1 2;line 2 3;line 3 4;line 4 5;line 5 6;line 6 7";
        MeterDesk x = told("grid 8;" + row + ";" + times("wide 0", 2, ";") + ";" + times("wide 3", 4, ";") + ";wide 6;wide 6;node 7");
        due("count(4)", x.count(4), 7);
        due("count(6)", x.count(6), 127);
        due("count(13)", x.count(13), 1);
        x = told("grid 7;" + row.substring(0, 53) + ";" + times("wide 2", 4, ";") + ";wide 5;wide 5");
        due("count(4)", x.count(4), 6);
        due("count(6)", x.count(6), 63);
        x = told("grid 3;" + times("line 0 1", 8, ";") + ";line 1 2;line 1 2;flow 9;flow 7;flow 8;pair 9");
        due("count(4)", x.count(4), 2);
        due("count(6)", x.count(6), 384);
        due("count(7)", x.count(7), 9);
    }

    private static void serves() {
        promise = 6;
        // 0 could have the node meter at 1, but then 1 and 2 would have one between them
        MeterDesk x = told("grid 4;line 0 1;line 1 2;line 2 3;node 1;wide 0;dull 2");
        due("count(6)", x.count(6), 7);
        due("line(0, 4)", x.line(0, 4), 0);
        due("line(1, 4)", x.line(1, 4), 1);
        due("line(2, 4)", x.line(2, 4), 2);
        x = told("grid 4;line 0 1;line 1 2;line 2 3;wide 1;node 0;flow 1");
        due("line(0, 4): the wide one is for line 2", x.line(0, 4), 1);
        due("line(1, 4)", x.line(1, 4), 2);
        due("line(2, 4)", x.line(2, 4), 0);
        due("count(7)", x.count(7), 0);
        x.put(0, 2);
        due("line(0, 4): now it is free", x.line(0, 4), 0);
        due("line(2, 4)", x.line(2, 4), 3);
        due("count(7)", x.count(7), 2);
        // line 2 is in it in any case, the flow meter tells no other
        x = told("grid 3;line 0 1;line 1 2;line 0 2;flow 2;node 1");
        due("count(6): 0 and 2, not 1 and 2", x.count(6), 5);
    }
}
