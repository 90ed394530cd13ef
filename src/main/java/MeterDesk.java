/** Where meters stand on a grid, and what can be told from them. */
public final class MeterDesk {
    public static final int NONE = -1, UNKNOWN = -2, OUTSIDE = -3, NOT = -4, FULL = -5, NULL = -11, EMPTY = -12, CAST = -13, ROOM = -14;

    private static final int FIRST_NODES = 3, LEAST_NODES = 2, MOST_NODES = 8;
    private static final int MOST_LINES = 10, MOST_METERS = 9, MOST_OFFERS = 6;
    private static final int MOST_LETTERS = 200, MOST_LETTER = 255, MOST_CLAUSES = 24;
    private static final int MOST_PRICE = 9, MOST_DIGITS = 2;
    private static final int MOST_UNDONE = 8, KEEPS = 2;
    private static final int MOST_SEEN = 6, MOST_PLACE = 9, MOST_LINE_SET = 1023;
    private static final int TRAYS = 3, TRAY_ROOM = 8, MOST_TAG = 99, MOST_COUNT = 9999;
    private static final int COUNT_SHIFT = 50000, SUM_SHIFT = 500000;

    private static final int FLOW = 0, PAIR = 1, AT_NODE = 2, WIDE = 3, DULL = 4, SORTS = 5;
    private static final int DID_PUT = 0, DID_SPOIL = 1, DID_MEND = 2, DID_CUT = 3;
    private static final int TAG = 0, COUNT = 1, LAID_METER = 2;

    private final Plan told;
    private final Reader reader;
    private final Standing now;
    private final Standing[] kept;
    private final boolean[] isKept;
    private final History history;
    private final Sight sight;
    private final Sightings sightings;
    private final Tray[] trays;

    public MeterDesk() {
        told = new Plan();
        reader = new Reader();
        now = new Standing();
        kept = new Standing[KEEPS];
        for (int k = 0; k < KEEPS; k++) {
            kept[k] = new Standing();
        }
        isKept = new boolean[KEEPS];
        history = new History();
        sight = new Sight(told, now);
        sightings = new Sightings();
        trays = new Tray[TRAYS];
        for (int tray = 0; tray < TRAYS; tray++) {
            trays[tray] = new Tray();
        }
        sight.learnForests();
        sight.refresh();
    }

    // ---- what is told

    public int write(int letter) {
        if (letter < 0 || letter > MOST_LETTER) {
            return OUTSIDE;
        }
        return reader.append((char) letter) ? reader.length : FULL;
    }

    public int erase() {
        return reader.empty();
    }

    public int fault() {
        return reader.findFault(told);
    }

    public int grid() {
        if (reader.findFault(told) != NONE) {
            return NOT;
        }
        told.copyFrom(reader.draft);
        reader.empty();
        now.startFrom(told);
        history.size = 0;
        for (int k = 0; k < KEEPS; k++) {
            isKept[k] = false;
        }
        for (int tray = 0; tray < TRAYS; tray++) {
            trays[tray].remove();
        }
        sight.learnForests();
        sight.refresh();
        return reader.clauses;
    }

    public int line(int line, int what) {
        if (!isLine(line)) {
            return UNKNOWN;
        }
        switch (what) {
            case 0: return told.low[line];
            case 1: return told.high[line];
            case 2: return now.cutLines >> line & 1;
            case 3: return sight.tree >> line & 1;
            case 4: return sight.meterOf(line);
            default: return OUTSIDE;
        }
    }

    public int meter(int meter, int what) {
        if (!isMeter(meter)) {
            return UNKNOWN;
        }
        switch (what) {
            case 0: return now.sort[meter];
            case 1: return now.at[meter];
            case 2: return now.broken >> meter & 1;
            case 3: return sight.reach[meter];
            case 4: return sight.lineOf(meter);
            case 5: return sight.isCritical(meter) ? 1 : 0;
            default: return OUTSIDE;
        }
    }

    public int offer(int offer, int what) {
        if (offer < 0 || offer >= told.offers) {
            return UNKNOWN;
        }
        switch (what) {
            case 0: return told.offerSort[offer];
            case 1: return told.offerAt[offer];
            case 2: return told.offerPrice[offer];
            case 3: return sight.gain(told.offerSort[offer], told.offerAt[offer]);
            default: return OUTSIDE;
        }
    }

    // ---- what is done

    public int put(int sort, int at) {
        int refused = refusePlace(sort, at);
        if (refused != 0) {
            return refused;
        }
        if (now.meters >= MOST_METERS) {
            return FULL;
        }
        int meter = now.addMeter(sort, at);
        history.note(DID_PUT, meter);
        sight.refresh();
        return meter;
    }

    public int spoil(int meter) {
        if (!isMeter(meter)) {
            return UNKNOWN;
        }
        if ((now.broken >> meter & 1) == 1) {
            return NOT;
        }
        now.broken |= 1 << meter;
        history.note(DID_SPOIL, meter);
        return sight.refresh();
    }

    public int mend(int meter) {
        if (!isMeter(meter)) {
            return UNKNOWN;
        }
        if ((now.broken >> meter & 1) == 0) {
            return NOT;
        }
        now.broken &= ~(1 << meter);
        history.note(DID_MEND, meter);
        return sight.refresh();
    }

    public int cut(int line) {
        if (!isLine(line)) {
            return UNKNOWN;
        }
        if ((now.cutLines >> line & 1) == 1) {
            return NOT;
        }
        now.cutLines |= 1 << line;
        history.note(DID_CUT, line);
        return sight.refresh();
    }

    public int undo() {
        if (history.size <= 0) {
            return NOT;
        }
        history.revertLatest(now);
        sight.refresh();
        return history.size;
    }

    public int keep(int k) {
        if (k < 0 || k >= KEEPS) {
            return UNKNOWN;
        }
        kept[k].copyFrom(now);
        isKept[k] = true;
        return sight.rank;
    }

    public int back(int k) {
        if (k < 0 || k >= KEEPS) {
            return UNKNOWN;
        }
        if (!isKept[k]) {
            return NOT;
        }
        now.copyFrom(kept[k]);
        history.size = 0;
        return sight.refresh();
    }

    // ---- what can be told

    public int island(int node) {
        if (node < 0 || node >= told.nodes) {
            return UNKNOWN;
        }
        return sight.islandOf(node);
    }

    public int weak(int what) {
        if (what != 0 && what != 1) {
            return OUTSIDE;
        }
        int set = sight.weakSet();
        return set == NONE || what == 0 ? set : Integer.bitCount(set);
    }

    public int deal(int what) {
        if (what != 0 && what != 1) {
            return OUTSIDE;
        }
        int set = sight.dealSet();
        return set == NONE || what == 0 ? set : told.priceOf(set);
    }

    public int lost(int line) {
        if (!isLine(line)) {
            return UNKNOWN;
        }
        if ((now.cutLines >> line & 1) == 1) {
            return NOT;
        }
        return sight.lossOf(line);
    }

    public int brings(int sort, int at) {
        int refused = refusePlace(sort, at);
        return refused != 0 ? refused : sight.gain(sort, at);
    }

    // ---- what was seen

    public int seen(int a, int lines) {
        if (a < 0 || a > MOST_PLACE || lines < 0 || lines > MOST_LINE_SET) {
            return OUTSIDE;
        }
        return sightings.add(a, lines) ? sightings.size : FULL;
    }

    public int forget() {
        int had = sightings.size;
        sightings.size = 0;
        return had;
    }

    public int fit() {
        return sightings.fitting(told, openLines());
    }

    public int ask() {
        return sightings.bestPlace(told, openLines());
    }

    // ---- trays

    public int tray(int tray) {
        if (!isTray(tray)) {
            return UNKNOWN;
        }
        trays[tray].renew();
        return 0;
    }

    public int lay(int tray, int what, int v) {
        if (!isTray(tray) || what == LAID_METER && !isMeter(v)) {
            return UNKNOWN;
        }
        if (!canBeLaid(what, v)) {
            return OUTSIDE;
        }
        return trays[tray].push(what, v);
    }

    public int take(int tray, int what) {
        if (!isTray(tray)) {
            return UNKNOWN;
        }
        if (!isKind(what)) {
            return OUTSIDE;
        }
        return trays[tray].pop(what);
    }

    public int all(int tray, int what) {
        if (!isTray(tray)) {
            return UNKNOWN;
        }
        if (!isKind(what)) {
            return OUTSIDE;
        }
        return trays[tray].together(what);
    }

    public int drop(int tray) {
        if (!isTray(tray)) {
            return UNKNOWN;
        }
        if (trays[tray].isMissing()) {
            return NULL;
        }
        int had = trays[tray].things();
        trays[tray].remove();
        return had;
    }

    public int count(int what) {
        switch (what) {
            case 0: return told.nodes;
            case 1: return told.lines;
            case 2: return now.meters;
            case 3: return told.offers;
            case 4: return sight.rank;
            case 5: return sight.wholeRank;
            case 6: return sight.tree;
            case 7: return sight.spares();
            case 8: return now.broken;
            case 9: return sightings.size;
            case 10: return thingsOfAllTrays();
            case 11: return history.size;
            case 12: return reader.length;
            case 13: return told.nodes - sight.rank;
            default: return OUTSIDE;
        }
    }

    // ---- helpers of the face

    private boolean isLine(int line) {
        return line >= 0 && line < told.lines;
    }

    private boolean isMeter(int meter) {
        return meter >= 0 && meter < now.meters;
    }

    private static boolean isTray(int tray) {
        return tray >= 0 && tray < TRAYS;
    }

    private static boolean isKind(int what) {
        return what == TAG || what == COUNT || what == LAID_METER;
    }

    private static boolean canBeLaid(int what, int v) {
        switch (what) {
            case TAG: return v >= 0 && v <= MOST_TAG;
            case COUNT: return v >= -MOST_COUNT && v <= MOST_COUNT;
            case LAID_METER: return true;
            default: return false;
        }
    }

    /** UNKNOWN or OUTSIDE, or 0: only a known sort says whether the place is a line or a node. */
    private int refusePlace(int sort, int at) {
        if (sort < 0 || sort >= SORTS) {
            return OUTSIDE;
        }
        return told.hasPlace(sort, at) ? 0 : UNKNOWN;
    }

    private int openLines() {
        return told.allLines() & ~now.cutLines;
    }

    private int thingsOfAllTrays() {
        int sum = 0;
        for (int tray = 0; tray < TRAYS; tray++) {
            sum += trays[tray].things();
        }
        return sum;
    }

    /** The number of the lowest bit of a set that is not empty. */
    private static int lowest(int set) {
        return Integer.bitCount((set & -set) - 1);
    }

    /** What the texts have told. */
    private static final class Plan {
        int nodes = FIRST_NODES;
        int lines;
        int meters;
        int offers;
        final int[] low = new int[MOST_LINES];
        final int[] high = new int[MOST_LINES];
        final int[] meterSort = new int[MOST_METERS];
        final int[] meterAt = new int[MOST_METERS];
        final int[] offerSort = new int[MOST_OFFERS];
        final int[] offerAt = new int[MOST_OFFERS];
        final int[] offerPrice = new int[MOST_OFFERS];

        void copyFrom(Plan other) {
            nodes = other.nodes;
            lines = other.lines;
            meters = other.meters;
            offers = other.offers;
            System.arraycopy(other.low, 0, low, 0, MOST_LINES);
            System.arraycopy(other.high, 0, high, 0, MOST_LINES);
            System.arraycopy(other.meterSort, 0, meterSort, 0, MOST_METERS);
            System.arraycopy(other.meterAt, 0, meterAt, 0, MOST_METERS);
            System.arraycopy(other.offerSort, 0, offerSort, 0, MOST_OFFERS);
            System.arraycopy(other.offerAt, 0, offerAt, 0, MOST_OFFERS);
            System.arraycopy(other.offerPrice, 0, offerPrice, 0, MOST_OFFERS);
        }

        void beginAnew(int newNodes) {
            nodes = newNodes;
            lines = 0;
            meters = 0;
            offers = 0;
        }

        void addLine(int a, int b) {
            if (lines < MOST_LINES) {
                low[lines] = Math.min(a, b);
                high[lines] = Math.max(a, b);
                lines++;
            }
        }

        void addMeter(int sort, int at) {
            if (meters < MOST_METERS) {
                meterSort[meters] = sort;
                meterAt[meters] = at;
                meters++;
            }
        }

        void addOffer(int sort, int at, int price) {
            if (offers < MOST_OFFERS) {
                offerSort[offers] = sort;
                offerAt[offers] = at;
                offerPrice[offers] = price;
                offers++;
            }
        }

        /** How many places there are for a sort: lines or nodes. */
        int placesFor(int sort) {
            return sort == FLOW || sort == PAIR ? lines : nodes;
        }

        boolean hasPlace(int sort, int at) {
            return at >= 0 && at < placesFor(sort);
        }

        int allLines() {
            return (1 << lines) - 1;
        }

        /** The lines, of the open ones, for which a meter of a sort may serve; none if it can't be there. */
        int linesFor(int sort, int at, int open) {
            if (!hasPlace(sort, at)) {
                return 0;
            }
            switch (sort) {
                case FLOW: return 1 << at & open;
                case PAIR: return linesBeside(at) & open;
                case AT_NODE: return linesAt(at, open);
                case WIDE: return linesNear(at, open);
                case DULL: return withoutLeast(linesAt(at, open));
                default: return 0;
            }
        }

        private static int withoutLeast(int set) {
            return set & (set - 1);
        }

        private int linesBeside(int line) {
            int set = 0;
            for (int other = 0; other < lines; other++) {
                if (low[other] == low[line] && high[other] == high[line]) {
                    set |= 1 << other;
                }
            }
            return set;
        }

        private int linesAt(int node, int open) {
            int set = 0;
            for (int line = 0; line < lines; line++) {
                if (low[line] == node || high[line] == node) {
                    set |= 1 << line;
                }
            }
            return set & open;
        }

        private int linesNear(int node, int open) {
            int here = linesAt(node, open);
            int set = 0;
            for (int line = 0; line < lines; line++) {
                if ((here >> line & 1) == 1) {
                    set |= linesAt(low[line], open) | linesAt(high[line], open);
                }
            }
            return set;
        }

        int priceOf(int set) {
            int sum = 0;
            for (int offer = 0; offer < offers; offer++) {
                if ((set >> offer & 1) == 1) {
                    sum += offerPrice[offer];
                }
            }
            return sum;
        }
    }

    /** The text, and how it is read, clause by clause, into a draft of what is told. */
    private static final class Reader {
        private static final int END = 0, WORD = 1, DIGITS = 2, SIGN = 3;

        int length;
        int clauses;
        final Plan draft = new Plan();
        private final char[] text = new char[MOST_LETTERS];
        private int kind;
        private int start;
        private int end;

        boolean append(char letter) {
            if (length >= MOST_LETTERS) {
                return false;
            }
            text[length] = letter;
            length++;
            return true;
        }

        int empty() {
            int had = length;
            length = 0;
            return had;
        }

        /** NONE, or where the fault is; without one the draft has all that was told and is told now. */
        int findFault(Plan told) {
            draft.copyFrom(told);
            end = 0;
            for (int clause = 1; clause <= MOST_CLAUSES; clause++) {
                if (!readClause()) {
                    return start;
                }
                advance();
                if (kind == END) {
                    clauses = clause;
                    return NONE;
                }
                if (kind != SIGN || text[start] != ';') {
                    return start;
                }
            }
            // The text went on behind the last clause that may be: that ; has no clause to part.
            return start;
        }

        private static int kindOf(char letter) {
            if (letter >= 'a' && letter <= 'z') {
                return WORD;
            }
            return letter >= '0' && letter <= '9' ? DIGITS : SIGN;
        }

        private void advance() {
            start = end;
            while (start < length && text[start] == ' ') {
                start++;
            }
            end = start;
            if (start >= length) {
                kind = END;
                return;
            }
            kind = kindOf(text[start]);
            end++;
            while (kind != SIGN && end < length && kindOf(text[end]) == kind) {
                end++;
            }
        }

        private boolean isWord(String word) {
            if (kind != WORD || end - start != word.length()) {
                return false;
            }
            for (int i = 0; i < word.length(); i++) {
                if (text[start + i] != word.charAt(i)) {
                    return false;
                }
            }
            return true;
        }

        /** The number that the next token is, or NONE if it is none from least to most. */
        private int readNumber(int least, int most) {
            advance();
            if (kind != DIGITS || end - start > MOST_DIGITS) {
                return NONE;
            }
            int value = 0;
            for (int i = start; i < end; i++) {
                value = value * 10 + (text[i] - '0');
            }
            return value < least || value > most ? NONE : value;
        }

        private boolean readClause() {
            advance();
            if (isWord("grid")) {
                return readGrid();
            }
            if (isWord("line")) {
                return readLine();
            }
            if (isWord("offer")) {
                return readOffer();
            }
            int sort = readSortName();
            return sort != NONE && readMeter(sort);
        }

        private int readSortName() {
            if (isWord("flow")) {
                return FLOW;
            }
            if (isWord("pair")) {
                return PAIR;
            }
            if (isWord("node")) {
                return AT_NODE;
            }
            if (isWord("wide")) {
                return WIDE;
            }
            return isWord("dull") ? DULL : NONE;
        }

        private boolean readGrid() {
            int nodes = readNumber(LEAST_NODES, MOST_NODES);
            if (nodes == NONE) {
                return false;
            }
            draft.beginAnew(nodes);
            return true;
        }

        private boolean readLine() {
            if (draft.lines >= MOST_LINES) {
                return false;
            }
            int a = readNumber(0, draft.nodes - 1);
            if (a == NONE) {
                return false;
            }
            int b = readNumber(0, draft.nodes - 1);
            if (b == NONE || b == a) {
                return false;
            }
            draft.addLine(a, b);
            return true;
        }

        private boolean readMeter(int sort) {
            if (draft.meters >= MOST_METERS) {
                return false;
            }
            int at = readNumber(0, draft.placesFor(sort) - 1);
            if (at == NONE) {
                return false;
            }
            draft.addMeter(sort, at);
            return true;
        }

        private boolean readOffer() {
            if (draft.offers >= MOST_OFFERS) {
                return false;
            }
            int sort = readNumber(0, SORTS - 1);
            if (sort == NONE) {
                return false;
            }
            int at = readNumber(0, draft.placesFor(sort) - 1);
            if (at == NONE) {
                return false;
            }
            int price = readNumber(1, MOST_PRICE);
            if (price == NONE) {
                return false;
            }
            draft.addOffer(sort, at, price);
            return true;
        }
    }

    /** The meters and lines as they are now, or as they were kept. */
    private static final class Standing {
        int meters;
        int broken;
        int cutLines;
        final int[] sort = new int[MOST_METERS];
        final int[] at = new int[MOST_METERS];

        void startFrom(Plan plan) {
            meters = plan.meters;
            broken = 0;
            cutLines = 0;
            System.arraycopy(plan.meterSort, 0, sort, 0, MOST_METERS);
            System.arraycopy(plan.meterAt, 0, at, 0, MOST_METERS);
        }

        void copyFrom(Standing other) {
            meters = other.meters;
            broken = other.broken;
            cutLines = other.cutLines;
            System.arraycopy(other.sort, 0, sort, 0, MOST_METERS);
            System.arraycopy(other.at, 0, at, 0, MOST_METERS);
        }

        int addMeter(int newSort, int newAt) {
            if (meters >= MOST_METERS) {
                return NONE;
            }
            sort[meters] = newSort;
            at[meters] = newAt;
            meters++;
            return meters - 1;
        }

        int wholeMeters() {
            return (1 << meters) - 1 & ~broken;
        }
    }

    /** The latest deeds, which can be undone. */
    private static final class History {
        int size;
        private final int[] deed = new int[MOST_UNDONE];
        private final int[] which = new int[MOST_UNDONE];

        void note(int newDeed, int newWhich) {
            if (size >= MOST_UNDONE) {
                System.arraycopy(deed, 1, deed, 0, MOST_UNDONE - 1);
                System.arraycopy(which, 1, which, 0, MOST_UNDONE - 1);
                size = MOST_UNDONE - 1;
            }
            deed[size] = newDeed;
            which[size] = newWhich;
            size++;
        }

        void revertLatest(Standing now) {
            if (size <= 0) {
                return;
            }
            size--;
            int bit = 1 << which[size];
            switch (deed[size]) {
                case DID_PUT: now.meters = which[size]; break;
                case DID_SPOIL: now.broken &= ~bit; break;
                case DID_MEND: now.broken |= bit; break;
                default: now.cutLines &= ~bit; break;
            }
        }
    }

    /** A family of sets of lines: a bit for each of the 1024 sets. */
    private static final class Family {
        private static final int ROWS = 16, SETS_IN_ROW = 64, LINES_IN_ROW = 6;
        /** The sets of a row that have no line 0, 1 .. 5. */
        private static final long[] LACKING = {
            0x5555555555555555L, 0x3333333333333333L, 0x0F0F0F0F0F0F0F0FL,
            0x00FF00FF00FF00FFL, 0x0000FFFF0000FFFFL, 0x00000000FFFFFFFFL};
        /** The sets of a row that have 0, 1 .. 6 of the lines 0 .. 5. */
        private static final long[] SIZED = {
            0x0000000000000001L, 0x0000000100010116L, 0x0001011601161668L,
            0x0116166816686880L, 0x1668688068808000L, 0x6880800080000000L,
            0x8000000000000000L};

        private final long[] sets = new long[ROWS];
        private final long[] before = new long[ROWS];

        void startWithEmptySet() {
            sets[0] = 1L;
            for (int row = 1; row < ROWS; row++) {
                sets[row] = 0L;
            }
        }

        void copyFrom(Family other) {
            System.arraycopy(other.sets, 0, sets, 0, ROWS);
        }

        void include(int set) {
            int row = set / SETS_IN_ROW;
            if (row >= 0 && row < ROWS) {
                sets[row] |= 1L << set % SETS_IN_ROW;
            }
        }

        boolean holds(int set) {
            int row = set / SETS_IN_ROW;
            return row >= 0 && row < ROWS && (sets[row] >> set % SETS_IN_ROW & 1L) == 1L;
        }

        /** Each set stays, and comes again with one more of the lines of a meter, where no ring comes of it. */
        void joinMeter(int lines, Family forests) {
            System.arraycopy(sets, 0, before, 0, ROWS);
            for (int line = 0; line < MOST_LINES; line++) {
                if ((lines >> line & 1) == 1) {
                    joinLine(line, forests);
                }
            }
        }

        private void joinLine(int line, Family forests) {
            if (line < LINES_IN_ROW) {
                for (int row = 0; row < ROWS; row++) {
                    sets[row] |= (before[row] & LACKING[line]) << (1 << line) & forests.sets[row];
                }
                return;
            }
            int step = 1 << line - LINES_IN_ROW;
            for (int row = 0; row + step < ROWS; row++) {
                if ((row & step) == 0) {
                    sets[row + step] |= before[row] & forests.sets[row + step];
                }
            }
        }

        /** How many lines the largest set has. */
        int mostLines() {
            int most = 0;
            for (int row = 0; row < ROWS; row++) {
                int high = Integer.bitCount(row);
                for (int size = LINES_IN_ROW; size >= 0 && high + size > most; size--) {
                    if ((sets[row] & SIZED[size]) != 0L) {
                        most = high + size;
                    }
                }
            }
            return most;
        }

        /** The least number of a set of so many lines, 0 if there is none. */
        int leastSet(int lines) {
            for (int row = 0; row < ROWS; row++) {
                int size = lines - Integer.bitCount(row);
                if (size >= 0 && size <= LINES_IN_ROW && (sets[row] & SIZED[size]) != 0L) {
                    long fitting = sets[row] & SIZED[size];
                    return row * SETS_IN_ROW + Long.bitCount((fitting & -fitting) - 1L);
                }
            }
            return 0;
        }
    }

    /** The rank with each set of some meters, beside what is there already. */
    private static final class Trials {
        final int[] rankWith = new int[1 << MOST_METERS];
        private final Family[] families = new Family[MOST_METERS + 1];

        Trials() {
            for (int i = 0; i <= MOST_METERS; i++) {
                families[i] = new Family();
            }
        }

        /**
         * Sets come in their order, so that a set without its least meter came ahead of it,
         * and no other set with the same least meter came since: a family for each is enough.
         */
        void tryAll(Family first, int[] reach, int meters, Family forests) {
            if (meters > MOST_METERS || meters > reach.length) {
                return;
            }
            families[MOST_METERS].copyFrom(first);
            rankWith[0] = first.mostLines();
            for (int set = 1; set < 1 << meters; set++) {
                int meter = lowest(set);
                int rest = set & (set - 1);
                Family family = families[meter];
                family.copyFrom(families[rest == 0 ? MOST_METERS : lowest(rest)]);
                family.joinMeter(reach[meter], forests);
                rankWith[set] = family.mostLines();
            }
        }
    }

    /** Which nodes hang together: those with the same label. */
    private static final class Parts {
        private final int[] label = new int[MOST_NODES];

        void separate() {
            for (int node = 0; node < MOST_NODES; node++) {
                label[node] = node;
            }
        }

        void copyFrom(Parts other) {
            System.arraycopy(other.label, 0, label, 0, MOST_NODES);
        }

        boolean areOne(int a, int b) {
            return label[a] == label[b];
        }

        void join(int a, int b) {
            int gone = label[b];
            for (int node = 0; node < MOST_NODES; node++) {
                if (label[node] == gone) {
                    label[node] = label[a];
                }
            }
        }
    }

    /** What can be told from the meters as they are now. */
    private static final class Sight {
        int rank;
        int wholeRank;
        int tree;
        final int[] reach = new int[MOST_METERS];
        private final Plan plan;
        private final Standing now;
        private final Family forests = new Family();
        private final Family served = new Family();
        private final Family scratch = new Family();
        private final Trials trials = new Trials();
        private final Parts[] parts = new Parts[MOST_LINES + 1];
        private final Parts islands = new Parts();
        private final int[] offerReach = new int[MOST_OFFERS];
        private final Servers servers = new Servers();
        private boolean serversKnown;
        private boolean weakKnown;
        private int weakest;
        private boolean dealKnown;
        private int cheapest;

        Sight(Plan plan, Standing now) {
            this.plan = plan;
            this.now = now;
            for (int i = 0; i <= MOST_LINES; i++) {
                parts[i] = new Parts();
            }
        }

        /** Which sets of lines have no ring; the order of sets is that of Trials.tryAll. */
        void learnForests() {
            forests.startWithEmptySet();
            parts[MOST_LINES].separate();
            for (int set = 1; set <= plan.allLines(); set++) {
                int line = lowest(set);
                int rest = set & (set - 1);
                Parts without = parts[rest == 0 ? MOST_LINES : lowest(rest)];
                if (forests.holds(rest) && !without.areOne(plan.low[line], plan.high[line])) {
                    forests.include(set);
                    parts[line].copyFrom(without);
                    parts[line].join(plan.low[line], plan.high[line]);
                }
            }
        }

        /** Finds rank, tree and islands anew: the rank. */
        int refresh() {
            int open = openLines();
            for (int meter = 0; meter < now.meters; meter++) {
                reach[meter] = reachOf(meter, open);
            }
            served.startWithEmptySet();
            for (int meter = 0; meter < now.meters; meter++) {
                served.joinMeter(reach[meter], forests);
            }
            rank = served.mostLines();
            tree = served.leastSet(rank);
            wholeRank = joinAll(open);
            joinAll(tree);
            serversKnown = false;
            weakKnown = false;
            dealKnown = false;
            return rank;
        }

        private int openLines() {
            return plan.allLines() & ~now.cutLines;
        }

        private int reachOf(int meter, int open) {
            boolean isBroken = (now.broken >> meter & 1) == 1;
            return isBroken ? 0 : plan.linesFor(now.sort[meter], now.at[meter], open);
        }

        /** Joins nodes by lines into islands: how many joins it took. */
        private int joinAll(int lines) {
            int joins = 0;
            islands.separate();
            for (int line = 0; line < plan.lines; line++) {
                if ((lines >> line & 1) == 1 && !islands.areOne(plan.low[line], plan.high[line])) {
                    islands.join(plan.low[line], plan.high[line]);
                    joins++;
                }
            }
            return joins;
        }

        int islandOf(int node) {
            int set = 0;
            for (int other = 0; other < plan.nodes; other++) {
                if (islands.areOne(node, other)) {
                    set |= 1 << other;
                }
            }
            return set;
        }

        int meterOf(int line) {
            learnServers();
            return servers.meterOf[line];
        }

        int lineOf(int meter) {
            learnServers();
            return servers.lineOf[meter];
        }

        int spares() {
            learnServers();
            return servers.spare;
        }

        private void learnServers() {
            if (!serversKnown) {
                servers.assign(tree, reach, now.wholeMeters());
                serversKnown = true;
            }
        }

        boolean isCritical(int meter) {
            scratch.startWithEmptySet();
            for (int other = 0; other < now.meters; other++) {
                if (other != meter) {
                    scratch.joinMeter(reach[other], forests);
                }
            }
            return scratch.mostLines() < rank;
        }

        int lossOf(int line) {
            int open = openLines() & ~(1 << line);
            scratch.startWithEmptySet();
            for (int meter = 0; meter < now.meters; meter++) {
                scratch.joinMeter(reachOf(meter, open), forests);
            }
            return rank - scratch.mostLines();
        }

        int gain(int sort, int at) {
            scratch.copyFrom(served);
            scratch.joinMeter(plan.linesFor(sort, at, openLines()), forests);
            return scratch.mostLines() - rank;
        }

        int weakSet() {
            if (!weakKnown) {
                weakest = findWeak();
                weakKnown = true;
            }
            return weakest;
        }

        private int findWeak() {
            if (rank == 0) {
                return NONE;
            }
            scratch.startWithEmptySet();
            trials.tryAll(scratch, reach, now.meters, forests);
            int whole = now.wholeMeters();
            int best = whole;
            for (int set = 1; set < whole; set++) {
                if ((set & ~whole) == 0 && trials.rankWith[whole & ~set] < rank
                        && Integer.bitCount(set) < Integer.bitCount(best)) {
                    best = set;
                }
            }
            return best;
        }

        int dealSet() {
            if (!dealKnown) {
                cheapest = findDeal();
                dealKnown = true;
            }
            return cheapest;
        }

        private int findDeal() {
            for (int offer = 0; offer < plan.offers; offer++) {
                offerReach[offer] = plan.linesFor(plan.offerSort[offer], plan.offerAt[offer], openLines());
            }
            trials.tryAll(served, offerReach, plan.offers, forests);
            int best = NONE;
            for (int set = 0; set < 1 << plan.offers; set++) {
                if (trials.rankWith[set] == wholeRank && (best == NONE || isBetterDeal(set, best))) {
                    best = set;
                }
            }
            return best;
        }

        private boolean isBetterDeal(int set, int best) {
            int difference = plan.priceOf(set) - plan.priceOf(best);
            return difference < 0 || difference == 0 && Integer.bitCount(set) < Integer.bitCount(best);
        }
    }

    /** Which meter serves which line of the tree. */
    private static final class Servers {
        int spare;
        final int[] meterOf = new int[MOST_LINES];
        final int[] lineOf = new int[MOST_METERS];
        /** For a set of lines of the tree: the meters that may serve for one of them. */
        private final int[] around = new int[1 << MOST_LINES];

        void assign(int tree, int[] reach, int meters) {
            for (int meter = 0; meter < MOST_METERS; meter++) {
                lineOf[meter] = NONE;
            }
            learnAround(tree, reach, meters);
            int later = tree;
            spare = meters;
            for (int line = 0; line < MOST_LINES; line++) {
                meterOf[line] = NONE;
                if ((tree >> line & 1) == 1) {
                    later &= ~(1 << line);
                    meterOf[line] = leastMeter(around[1 << line], later);
                }
                if (meterOf[line] != NONE) {
                    lineOf[meterOf[line]] = line;
                    spare &= ~(1 << meterOf[line]);
                }
            }
        }

        private void learnAround(int tree, int[] reach, int meters) {
            around[0] = 0;
            for (int set = 1; set <= tree && set < around.length; set++) {
                if ((set & ~tree) == 0) {
                    around[set] = around[set & (set - 1)] | metersFor(lowest(set), reach, meters);
                }
            }
        }

        private static int metersFor(int line, int[] reach, int meters) {
            int set = 0;
            for (int meter = 0; meter < MOST_METERS && meter < reach.length; meter++) {
                if ((meters >> meter & 1) == 1 && (reach[meter] >> line & 1) == 1) {
                    set |= 1 << meter;
                }
            }
            return set;
        }

        private int leastMeter(int fitting, int later) {
            for (int meter = 0; meter < MOST_METERS; meter++) {
                int bit = 1 << meter;
                if ((fitting & spare & bit) != 0 && canAllHaveOne(later, spare & ~bit)) {
                    return meter;
                }
            }
            return NONE;
        }

        /** By Hall's rule: each set of the lines has at least as many meters around it. */
        private boolean canAllHaveOne(int lines, int meters) {
            for (int set = lines; set > 0; set = set - 1 & lines) {
                if (Integer.bitCount(around[set] & meters) < Integer.bitCount(set)) {
                    return false;
                }
            }
            return true;
        }
    }

    /** What was seen of one meter of unknown sort. */
    private static final class Sightings {
        int size;
        private final int[] at = new int[MOST_SEEN];
        private final int[] lines = new int[MOST_SEEN];

        boolean add(int newAt, int newLines) {
            if (size >= MOST_SEEN) {
                return false;
            }
            at[size] = newAt;
            lines[size] = newLines;
            size++;
            return true;
        }

        int fitting(Plan plan, int open) {
            int sorts = 0;
            for (int sort = 0; sort < SORTS; sort++) {
                if (fits(sort, plan, open)) {
                    sorts |= 1 << sort;
                }
            }
            return sorts;
        }

        private boolean fits(int sort, Plan plan, int open) {
            for (int i = 0; i < size; i++) {
                if (!plan.hasPlace(sort, at[i]) || plan.linesFor(sort, at[i], open) != lines[i]) {
                    return false;
                }
            }
            return true;
        }

        int bestPlace(Plan plan, int open) {
            int sorts = fitting(plan, open);
            int least = Integer.bitCount(sorts);
            int best = NONE;
            for (int place = 0; place <= MOST_PLACE; place++) {
                int greatest = greatestPart(sorts, place, plan, open);
                if (greatest < least) {
                    least = greatest;
                    best = place;
                }
            }
            return best;
        }

        private static int greatestPart(int sorts, int place, Plan plan, int open) {
            int greatest = 0;
            for (int sort = 0; sort < SORTS; sort++) {
                if ((sorts >> sort & 1) == 1) {
                    greatest = Math.max(greatest, alike(sorts, sort, place, plan, open));
                }
            }
            return greatest;
        }

        private static int alike(int sorts, int sort, int place, Plan plan, int open) {
            int same = 0;
            for (int other = 0; other < SORTS; other++) {
                if ((sorts >> other & 1) == 1
                        && plan.linesFor(other, place, open) == plan.linesFor(sort, place, open)) {
                    same++;
                }
            }
            return same;
        }
    }

    /** A row of things, or no row at all. */
    private static final class Tray {
        private boolean there;
        private int size;
        private final int[] kind = new int[TRAY_ROOM];
        private final int[] value = new int[TRAY_ROOM];

        void renew() {
            there = true;
            size = 0;
        }

        void remove() {
            there = false;
            size = 0;
        }

        boolean isMissing() {
            return !there;
        }

        int things() {
            return size;
        }

        int push(int newKind, int newValue) {
            if (!there) {
                return NULL;
            }
            if (size >= TRAY_ROOM) {
                return ROOM;
            }
            kind[size] = newKind;
            value[size] = newValue;
            size++;
            return size;
        }

        int pop(int wanted) {
            if (!there) {
                return NULL;
            }
            if (size <= 0) {
                return EMPTY;
            }
            if (kind[size - 1] != wanted) {
                return CAST;
            }
            size--;
            return wanted == COUNT ? value[size] + COUNT_SHIFT : value[size];
        }

        int together(int wanted) {
            if (!there) {
                return NULL;
            }
            int tags = 0;
            int sum = SUM_SHIFT;
            int meters = 0;
            for (int i = 0; i < size; i++) {
                switch (kind[i]) {
                    case TAG: tags++; break;
                    case COUNT: sum += value[i]; break;
                    default: meters |= 1 << value[i]; break;
                }
            }
            if (wanted == TAG) {
                return tags;
            }
            return wanted == COUNT ? sum : meters;
        }
    }
}
