import java.util.regex.Matcher;
import java.util.regex.Pattern;

/** Boundary cases of the promises 1 to 5: a new object, THE TEXT, its FAULT, its CLAUSES. A test for each sentence. */
public final class TextEdges {
    private static final int NONE = MeterDesk.NONE, UNKNOWN = MeterDesk.UNKNOWN, OUTSIDE = MeterDesk.OUTSIDE;
    private static final int NOT = MeterDesk.NOT, FULL = MeterDesk.FULL, NULL = MeterDesk.NULL;
    /** Numbers that are far out, also such as are 0 .. 9 again in 8, 16, 32 or 64 bits. */
    private static final String[] LONG_NUMBERS = {"000", "001", "002", "008", "100", "256", "258", "999", "65536", "65538",
        "2147483647", "2147483648", "4294967296", "4294967297", "4294967298", "18446744073709551618", "00000000000000000002"};

    public static void main(String[] args) {
        newObject();
        writtenLetters();
        erased();
        placesOfFaults();
        endsTooSoon();
        letters();
        tokens();
        digits();
        clauses();
        nodesOfGrid();
        nodesOfLine();
        linesAtMost();
        placesOfMeters();
        metersAtMost();
        offers();
        offersAtMost();
        doneClauses();
        refusedGrid();
        behindClauses();
        Sentences.end(1, 5);
    }

    private static String times(String part, int n) {
        return Sentences.times(part, n);
    }

    /** Where the fault of a text is, told to an object to which others were told ahead. */
    private static void fault(int want, String text, String... ahead) {
        Case typed = new Case(ahead).typed(text);
        typed.quiet(want, "fault");
        if (want == NONE) {
            typed.due((int) text.chars().filter(letter -> letter == ';').count() + 1, "grid");
        } else {
            typed.refused(NOT, "grid");
        }
    }

    private static void newObject() {
        Sentences.sentence(1, "`MeterDesk()`: Three nodes, no lines.");
        Case made = new Case();
        made.due(3, "count", 0).due(0, "count", 1).due(3, "count", 13).due(0, "count", 5);
        made.due(1, "island", 0).due(4, "island", 2).refused(UNKNOWN, "island", 3);
        made.refusedFirst(UNKNOWN, Sentences.outside(0, -1), "line", 0);
        Sentences.sentence(1, "LINES 0, 1 .., 10 at most (none at first)");
        made.refused(UNKNOWN, "line", 0, 0).refused(UNKNOWN, "cut", 0).refused(UNKNOWN, "lost", 0).refused(UNKNOWN, "put", 0, 0);
        Sentences.sentence(1, "METERS 0, 1 .., 9 at most (none at first)");
        made.due(0, "count", 2).due(0, "count", 7).due(0, "count", 8).refused(UNKNOWN, "meter", 0, 0).due(0, "put", 2, 2);
        Sentences.sentence(1, "OFFERS 0, 1 .., 6 at most (none at first)");
        made.due(0, "count", 3).refused(UNKNOWN, "offer", 0, 0);
        Sentences.sentence(1, "TRAYS 0 .. 2 are missing (at first)");
        made.refused(NULL, "all", 0, 0).refused(NULL, "all", 1, 0).refused(NULL, "all", 2, 0).due(0, "count", 10);
        Sentences.sentence(1, "## Promise 1: A new object");
        made.due(0, "count", 9).due(0, "count", 11).due(0, "count", 12).refused(NOT, "undo").refused(NOT, "back", 0).refused(NOT, "back", 1);
        Sentences.sentence(1, "An object is used for at most 512 calls after it has been made");
        Desk used = made.open();
        for (int i = 0; i < 255; i++) {
            used.due(1, "write", 'g').due(1, "erase");
        }
        used.due(1, "write", 'g').due(1, "count", 12);
    }

    private static void writtenLetters() {
        Sentences.sentence(2, "A letter (its number, 0 .. 255) more of THE TEXT: how many it has.");
        for (int letter : new int[] {0, 1, 31, 32, 97, 127, 128, 254, 255}) {
            new Case().due(1, "write", letter);
            new Case().typed("grid").due(5, "write", letter);
        }
        new Case().typed("grid 4").refusedFirst(OUTSIDE, Sentences.outside(0, 255), "write");
        Sentences.sentence(2, "THE TEXT is a row of letters, 200 at most");
        Desk desk = new Case().open();
        for (int i = 1; i <= 200; i++) {
            desk.due(i, "write", 'a');
        }
        desk.due(FULL, "write", 'a').due(FULL, "write", 0).due(FULL, "write", 255).due(200, "count", 12);
        Case full = new Case().typed(times("grid 2", 24) + " ".repeat(33));
        full.due(200, "count", 12).refused(FULL, "write", ' ').refused(FULL, "write", 255).due(NONE, "fault");
        full.then("erase").due(1, "write", 0);
        new Case().typed(times("grid 2", 24) + " ".repeat(32)).due(200, "write", ' ');
        new Case(times("grid 2", 24) + " ".repeat(33)).due(1, "write", 'a');
        Sentences.sentence(2, "OUTSIDE; FULL.");
        new Case().typed("x".repeat(200)).refusedFirst(OUTSIDE, new int[] {-1, 256, Integer.MIN_VALUE, Integer.MAX_VALUE}, "write");
    }

    private static void erased() {
        Sentences.sentence(3, "THE TEXT is empty: how many letters it had.");
        new Case().quiet(0, "erase");
        for (int letters : new int[] {1, 2, 199, 200}) {
            Desk desk = new Case().typed("x".repeat(letters)).open();
            desk.due(letters, "erase").due(0, "erase").due(0, "count", 12).due(0, "fault").due(1, "write", 'y');
        }
        new Case().typed("x").then("erase").quiet(0, "erase").due(NOT, "grid");
        Desk told = new Case("grid 4;line 0 1;node 0").typed("grid 2").then("cut", 0).open();
        told.due(6, "erase").due(4, "count", 0).due(1, "count", 1).due(1, "count", 2).due(1, "line", 0, 2).due(1, "count", 11);
    }

    private static void placesOfFaults() {
        Sentences.sentence(4, "The place of the FAULT (the letter with which the TOKEN begins, or the length); NONE.");
        fault(0, "x");
        fault(0, "xyz 4");
        fault(1, " x");
        fault(5, "grid 99");
        fault(8, "grid    99");
        fault(0, "x" + " ".repeat(199));
        fault(199, "grid 2" + " ".repeat(193) + "x");
        fault(198, "grid" + " ".repeat(194) + "99");
        fault(198, "grid 2;" + " ".repeat(191) + "xy");
        fault(200, "grid 2" + " ".repeat(193) + ";");
        fault(199, "grid" + " ".repeat(195));
        fault(200, "grid" + " ".repeat(196));
        fault(200, " ".repeat(200));
        fault(NONE, " ".repeat(194) + "grid 2");
        fault(NONE, "grid" + " ".repeat(195) + "2");
        Sentences.sentence(4, "A FAULT is at the first TOKEN");
        fault(5, "grid 9;line 9 9");
        fault(12, "grid 4;line 9 9");
        fault(7, "grid 4;lin 9 9");
    }

    private static void endsTooSoon() {
        Sentences.sentence(4, "or at the end, if it comes too soon");
        fault(0, "");
        fault(1, " ");
        String whole = "grid 4;line 0 3;flow 0;pair 0;node 3;wide 3;dull 3;offer 4 3 9";
        Matcher tokens = Pattern.compile("[a-z]+|[0-9]+|;").matcher(whole);
        while (tokens.find()) {
            String start = whole.substring(0, tokens.end());
            boolean clauseEnds = tokens.end() == whole.length() || whole.charAt(tokens.end()) == ';';
            fault(clauseEnds ? NONE : start.length(), start);
            fault(clauseEnds ? NONE : start.length() + 3, start + "   ");
        }
        fault(7, "grid 4;");
        fault(0, ";grid 4");
        fault(7, "grid 4;;grid 4");
        fault(5, "grid ;4");
    }

    private static void letters() {
        Sentences.sentence(4, "small letters a .. z, numbers of 1 or 2 digits, blanks between");
        for (char letter = 0; letter <= 255; letter++) {
            boolean small = letter >= 'a' && letter <= 'z';
            boolean digit = letter >= '0' && letter <= '9';
            boolean blank = letter == ' ';
            fault(blank ? NONE : 0, letter + "grid 4");
            fault(blank || letter == '0' ? NONE : small ? 0 : 4, "grid" + letter + "4");
            fault(blank || letter == '0' ? NONE : 5, "grid " + letter + "4");
            fault(blank ? NONE : letter == ';' ? 7 : digit ? 5 : 6, "grid 4" + letter);
            fault(letter == ';' ? NONE : digit ? 5 : blank ? 7 : 6, "grid 4" + letter + "grid 5");
            fault(letter == 'i' ? NONE : 0, "gr" + letter + "d 4");
        }
    }

    private static void tokens() {
        Sentences.sentence(4, "(a row of small letters, a row of digits, any other letter)");
        fault(0, "gridgrid 4");
        fault(0, "grida");
        fault(5, "grid a4");
        fault(6, "grid 4a");
        fault(NONE, "grid4");
        fault(NONE, "grid4;line0 1;flow0");
        fault(13, "grid 4;line 0");
        fault(14, "grid 4;line 01");
        fault(5, "grid --4");
        fault(6, "grid 4--");
        fault(5, "grid +4");
        fault(6, "grid 4.0");
        fault(0, "Grid 4");
        fault(0, "GRID 4");
        fault(4, "grid\t4");
        fault(4, "grid\n4");
        fault(6, "grid 4\n");
        fault(6, "grid 4,line 0 1");
        fault(6, "grid 4" + (char) 160);
        String[] words = {"grid", "line", "flow", "pair", "node", "wide", "dull", "offer"};
        for (String word : words) {
            fault(0, word + "s 0");
            fault(0, "a" + word + " 0");
            fault(word.length(), word);
            for (int i = 0; i < word.length(); i++) {
                fault(0, word.substring(0, i) + "z" + word.substring(i + 1) + " 0");
                fault(0, word.substring(0, i) + word.substring(i + 1) + " 0");
            }
        }
    }

    private static void digits() {
        Sentences.sentence(4, "(a number out of its bounds, of more digits, like another one of its line, also)");
        fault(NONE, "grid 02");
        fault(NONE, "grid 08");
        fault(NONE, "line 00 02;flow 00;node 02;offer 04 02 09");
        for (String number : LONG_NUMBERS) {
            fault(5, "grid " + number);
            fault(5, "line " + number + " 0");
            fault(7, "line 0 " + number);
            fault(5, "flow " + number, "line 0 1;line 0 1;line 0 1");
            fault(5, "pair " + number, "line 0 1;line 0 1;line 0 1");
            fault(5, "node " + number);
            fault(5, "wide " + number);
            fault(5, "dull " + number);
            fault(6, "offer " + number + " 0 1");
            fault(8, "offer 2 " + number + " 1");
            fault(8, "offer 0 " + number + " 1", "line 0 1;line 0 1;line 0 1");
            fault(10, "offer 2 0 " + number);
        }
    }

    private static void clauses() {
        Sentences.sentence(4, "CLAUSES with ; between, 24 at most");
        fault(NONE, times("grid 2", 1));
        fault(NONE, times("grid 2", 2));
        fault(NONE, times("grid 2", 23));
        fault(NONE, times("grid 2", 24));
        fault(NONE, times("grid2", 24) + "  ");
        // the ; behind the last clause that may be cannot stand there, whatever comes
        fault(167, times("grid 2", 25));
        fault(167, times("grid 2", 24) + ";");
        fault(169, times("grid 2", 24) + "  ;  grid 2");
        fault(167, times("grid 2", 24) + ";x");
        fault(143, times("grid2", 33));
        fault(167, times("grid 2", 24) + "grid 2");
        fault(160, times("grid 2", 23) + "xrid 2");
        fault(5, "grid 9;" + times("grid 2", 25));
        // texts that were told ahead do not count
        fault(NONE, times("grid 2", 24), times("grid 2", 24));
    }

    private static void nodesOfGrid() {
        Sentences.sentence(4, "grid: N NODES, 2 to 8, all else as at first");
        for (int nodes = 0; nodes <= 99; nodes++) {
            boolean inside = nodes >= 2 && nodes <= 8;
            fault(inside ? NONE : 5, "grid " + nodes);
            if (inside) {
                new Case("grid " + nodes).due(nodes, "count", 0).due(1 << nodes - 1, "island", nodes - 1).refused(UNKNOWN, "island", nodes);
            }
        }
        Case again = new Case("grid 8;" + times("line 0 1", 10), times("node 7", 9) + ";" + times("offer 0 9 9", 6), "grid 3");
        again.due(3, "count", 0).due(0, "count", 1).due(0, "count", 2).due(0, "count", 3);
        new Case("line 0 1;node 0;offer 2 0 1;grid 3;line 1 2").due(1, "count", 1).due(0, "count", 2).due(0, "count", 3).due(2, "line", 0, 1);
        fault(NONE, "grid 2;line 0 1", "grid 8;" + times("line 6 7", 10));
        fault(14, "grid 2;line 0 2", "grid 8");
        fault(12, "grid 2;flow 0", "line 0 1");
    }

    private static void nodesOfLine() {
        Sentences.sentence(4, "line: a LINE more between U and V, unlike NODES");
        for (int nodes = 2; nodes <= 8; nodes++) {
            String grid = "grid " + nodes;
            fault(NONE, "line 0 " + (nodes - 1), grid);
            fault(NONE, "line " + (nodes - 1) + " 0", grid);
            fault(NONE, "line " + (nodes - 2) + " " + (nodes - 1), grid);
            for (int out : new int[] {nodes, nodes + 1, 10 + nodes - 1, 99}) {
                fault(7, "line 0 " + out, grid);
                fault(5, "line " + out + " 0", grid);
                fault(5, "line " + out + " " + out, grid);
                fault(14, grid + ";line 0 " + out);
            }
            for (int node = 0; node < nodes; node++) {
                fault(7, "line " + node + " " + node, grid);
                fault(7, "line " + node + " 0" + node, grid);
                fault(8, "line 0" + node + " " + node, grid);
            }
        }
        fault(NONE, "line 0 2");
        fault(7, "line 0 3");
        Sentences.sentence(4, "each between two unlike NODES (several may be between the same)");
        fault(NONE, "line 0 1;line 0 1;line 1 0");
        new Case(times("line 0 1", 10)).due(10, "count", 1).due(0, "line", 9, 0).due(1, "line", 9, 1);
    }

    private static void linesAtMost() {
        Sentences.sentence(4, "an eleventh cannot stand there (at its word)");
        fault(NONE, times("line 0 1", 9));
        fault(NONE, times("line 0 1", 10));
        fault(90, times("line 0 1", 11));
        fault(90, times("line 0 1", 10) + ";line");
        fault(90, times("line 0 1", 10) + ";line 9 9");
        fault(92, times("line 0 1", 10) + ";  line 0 1;line 0 1");
        fault(NONE, "line 0 1", times("line 0 1", 9));
        fault(9, "line 0 1;line 0 1", times("line 0 1", 9));
        fault(0, "line 0 1", times("line 0 1", 10));
        fault(0, "line 0 1;grid 3", times("line 0 1", 10));
        fault(NONE, "flow 9;node 2;offer 0 9 1", times("line 0 1", 10));
        fault(NONE, "grid 3;" + times("line 0 1", 10), times("line 0 1", 10));
        fault(97, "grid 3;" + times("line 0 1", 11), times("line 0 1", 10));
    }

    private static void placesOfMeters() {
        Sentences.sentence(4, "flow ..: a METER more, AT LINE L, told ahead, AT NODE V, such as there is");
        for (String word : new String[] {"flow", "pair"}) {
            fault(5, word + " 0");
            fault(5, word + " 0;line 0 1");
            fault(NONE, "line 0 1;" + word + " 0");
            fault(14, "line 0 1;" + word + " 1;line 0 1");
            fault(NONE, word + " 0", "line 0 1");
            fault(5, word + " 1", "line 0 1");
            fault(NONE, word + " 9", times("line 0 1", 10));
            fault(NONE, word + " 8;line 0 1;" + word + " 9", times("line 0 1", 9));
            fault(5, word + " 9", times("line 0 1", 9));
            fault(5, word + " 10", times("line 0 1", 10));
            fault(5, word + " 99", times("line 0 1", 10));
        }
        for (String word : new String[] {"node", "wide", "dull"}) {
            for (int nodes = 2; nodes <= 8; nodes++) {
                fault(NONE, word + " 0;" + word + " " + (nodes - 1), "grid " + nodes);
                fault(5, word + " " + nodes, "grid " + nodes);
                fault(12, "grid " + nodes + ";" + word + " " + nodes);
                fault(5, word + " " + (10 + nodes - 1), "grid " + nodes);
                fault(5, word + " 99", "grid " + nodes);
            }
            fault(NONE, word + " 2");
            fault(5, word + " 3;grid 4");
        }
    }

    private static void metersAtMost() {
        Sentences.sentence(4, "such as there is, a tenth cannot");
        for (String word : new String[] {"flow", "pair", "node", "wide", "dull"}) {
            String line = "line 0 1;line 0 1";
            fault(NONE, times(word + " 0", 8), line);
            fault(NONE, times(word + " 0", 9), line);
            fault(63, times(word + " 0", 10), line);
            fault(63, times(word + " 0", 9) + ";" + word, line);
            fault(64, times(word + " 0", 9) + "; " + word + " 99", line);
            fault(NONE, word + " 0", line, times("dull 0", 8));
            fault(7, word + " 0;" + word + " 0", line, times("dull 0", 8));
            fault(0, word + " 0", line, times("dull 0", 9));
            fault(NONE, "line 0 1;offer 2 0 1", line, times("dull 0", 9));
            fault(NONE, "grid 3;line 0 1;" + times(word + " 0", 9), line, times("dull 0", 9));
        }
        Sentences.sentence(4, "(METERS that were put in are no more)");
        Case put = new Case("node 0");
        for (int meter = 1; meter < 9; meter++) {
            put.then("put", 2, 0);
        }
        put.due(9, "count", 2).typed(times("node 1", 8)).due(NONE, "fault").due(8, "grid");
        put.typed(";node 1").due(56, "fault");
    }

    private static void offers() {
        Sentences.sentence(4, "offer: an OFFER more of SORT S, 0 to 4, AT the LINE, told ahead, or the NODE A, PRICE P, 1 to 9");
        for (int number = 0; number <= 99; number++) {
            int digits = number < 10 ? 1 : 2;
            fault(number <= 4 ? NONE : 6, "offer " + number + " 0 1", "line 0 1");
            fault(number >= 1 && number <= 9 ? NONE : 10, "offer 2 0 " + number);
            fault(number <= 2 ? NONE : 8, "offer 3 " + number + " 1");
            fault(number <= 1 ? NONE : 8, "offer 1 " + number + " 1", "line 0 1;line 0 1");
            fault(number < 10 && number > 0 ? 12 : 10, "offer 2 0 " + number + " 1", "line 0 1");
            fault(number <= 2 ? 9 + digits : 8, "offer 2 " + number + " 0");
        }
        for (int sort = 0; sort <= 1; sort++) {
            fault(8, "offer " + sort + " 0 1");
            fault(8, "offer " + sort + " 0 1;line 0 1");
            fault(NONE, "line 0 1;offer " + sort + " 0 1");
            fault(NONE, "offer " + sort + " 9 9", times("line 0 1", 10));
            fault(8, "offer " + sort + " 10 9", times("line 0 1", 10));
            fault(8, "offer " + sort + " 9 9", times("line 0 1", 9));
        }
        for (int sort = 2; sort <= 4; sort++) {
            fault(NONE, "offer " + sort + " 7 9", "grid 8");
            fault(8, "offer " + sort + " 8 9", "grid 8;" + times("line 0 1", 10));
            fault(NONE, "offer " + sort + " 1 9", "grid 2");
            fault(8, "offer " + sort + " 2 9", "grid 2;" + times("line 0 1", 10));
        }
        fault(NONE, "offer 02 01 05");
        fault(10, "offer 2 0 00");
        fault(6, "offer 05 0 1");
    }

    private static void offersAtMost() {
        Sentences.sentence(4, "a seventh cannot");
        fault(NONE, times("offer 2 0 1", 5));
        fault(NONE, times("offer 2 0 1", 6));
        fault(72, times("offer 2 0 1", 7));
        fault(72, times("offer 2 0 1", 6) + ";offer");
        fault(74, times("offer 2 0 1", 6) + ";  offer 9 9 99");
        fault(NONE, "offer 2 0 1", times("offer 2 0 1", 5));
        fault(12, "offer 2 0 1;offer 2 0 1", times("offer 2 0 1", 5));
        fault(0, "offer 2 0 1", times("offer 2 0 1", 6));
        fault(NONE, "node 0;line 0 1", times("offer 2 0 1", 6));
        fault(NONE, "grid 3;" + times("offer 2 0 1", 6), times("offer 2 0 1", 6));
    }

    private static void doneClauses() {
        Sentences.sentence(5, "THE TEXT's CLAUSES are done, and it is empty then: how many there were.");
        for (int n : new int[] {1, 2, 23, 24}) {
            new Case().typed(times("grid 2", n)).open().due(n, "grid").due(0, "count", 12).due(2, "count", 0).due(NOT, "grid").due(1, "write", 'a');
        }
        Sentences.sentence(5, "CLAUSES are done in their order.");
        new Case("grid 8;grid 2").due(2, "count", 0);
        new Case("grid 2;grid 8").due(8, "count", 0);
        new Case("line 0 1;line 1 2;line 0 2").due(1, "line", 0, 1).due(1, "line", 1, 0).due(2, "line", 2, 1);
        new Case("dull 0;wide 1;node 2;grid 3;wide 2;dull 1").due(2, "count", 2).due(3, "meter", 0, 0).due(4, "meter", 1, 0);
        new Case("offer 2 0 9;offer 3 1 1").due(9, "offer", 0, 2).due(1, "offer", 1, 2);
        Sentences.sentence(5, "what earlier texts told stays as it was told");
        Case both = new Case("grid 8;line 6 7;flow 0;offer 4 7 9", "line 0 1;dull 7;offer 1 1 1");
        both.due(8, "count", 0).due(2, "count", 1).due(2, "count", 2).due(2, "count", 3);
        both.due(6, "line", 0, 0).due(0, "meter", 0, 1).due(7, "offer", 0, 1);
        both.due(0, "line", 1, 0).due(7, "meter", 1, 1).due(1, "offer", 1, 1);
    }

    private static void refusedGrid() {
        Sentences.sentence(5, "NOT: it has a FAULT.");
        Case rich = new Case("grid 4;line 0 1;line 1 2;flow 0;pair 1;offer 2 3 1");
        rich.then("keep", 0).then("put", 2, 3).then("cut", 1).then("spoil", 0).then("keep", 1).then("seen", 0, 1);
        rich.then("tray", 0).then("tray", 2).then("lay", 2, 0, 99).then("lay", 2, 1, -9999).then("lay", 2, 2, 2);
        rich.refused(NOT, "grid");
        rich.typed("grid 8;line 0 7;node 7;offer 2 7 9;").due(35, "fault").refused(NOT, "grid");
        rich.typed("grid 9").refused(NOT, "grid").due(41, "count", 12);
        rich.then("erase").typed("grid 9").refused(NOT, "grid").due(5, "fault");
        rich.then("erase").typed(times("grid 2", 25)).refused(NOT, "grid");
        rich.then("erase").refused(NOT, "grid");
    }

    private static void behindClauses() {
        Sentences.sentence(5, "Behind them all is as told, no LINE is CUT, no METER BROKEN, nothing is kept or can be undone");
        Case rich = new Case("grid 4;" + times("line 0 1", 9) + ";line 2 3;" + times("node 3", 7));
        rich.then("put", 0, 9).then("put", 2, 0).then("cut", 9).then("cut", 0).then("spoil", 0).then("spoil", 8);
        rich.then("keep", 0).then("keep", 1).then("seen", 3, 512);
        rich.then("tray", 0).then("tray", 1).then("tray", 2).then("lay", 0, 0, 1).then("lay", 1, 1, 1).then("lay", 2, 2, 8);
        rich.due(0, "count", 6).due(257, "count", 8).due(6, "count", 11);
        rich.told("node 0");
        rich.due(8, "count", 2).due(0, "meter", 7, 1).due(0, "count", 8).due(0, "line", 9, 2).due(0, "line", 0, 2);
        rich.due(0, "count", 11).refused(NOT, "undo").refused(NOT, "back", 0).refused(NOT, "back", 1);
        rich.due(513, "count", 6).due(2, "count", 4).refused(UNKNOWN, "meter", 8, 0);
        Sentences.sentence(5, "TRAYS are all missing.");
        rich.due(0, "count", 10).refused(NULL, "drop", 0).refused(NULL, "drop", 1).refused(NULL, "drop", 2);
        rich.due(0, "tray", 1);
        rich.then("tray", 1).due(0, "all", 1, 0).due(500000, "all", 1, 1).refused(NULL, "all", 0, 0);
        // what was SEEN is not in that list
        rich.due(1, "count", 9);
    }
}
