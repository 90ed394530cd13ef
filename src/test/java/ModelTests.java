import java.util.ArrayList;
import java.util.Arrays;
import java.util.List;
import java.util.Random;

/** Long runs of calls with a fixed seed, each answer compared with that of a plain, slow model. */
public final class ModelTests {
    /** What an object answers behind so many calls is free. */
    private static final int MOST_CALLS = 512;
    private static int wrong = 0;

    public static void main(String[] args) {
        int calls = 0;
        for (int run = 0; run < 500 && wrong < 20; run++) {
            calls += new Run(run).go();
        }
        System.out.println(calls + " calls, " + wrong + " answers not as the model's");
        if (wrong != 0) {
            System.exit(1);
        }
    }

    /** One object and one model, called alike. */
    private static final class Run {
        final int seed;
        final Random random;
        final MeterDesk desk = new MeterDesk();
        final Model model = new Model();
        final List<String> log = new ArrayList<>();
        int calls = 0;

        Run(int seed) {
            this.seed = seed;
            this.random = new Random(seed);
        }

        int from(int least, int most) {
            return least + random.nextInt(most - least + 1);
        }

        int go() {
            int turns = from(0, 2);
            while (calls < MOST_CALLS) {
                if (turns > 0 || from(0, 60) == 0) {
                    turns = Math.max(0, turns - 1);
                    tell(madeText());
                } else {
                    step();
                }
            }
            return calls;
        }

        void tell(String text) {
            for (int i = 0; i < text.length(); i++) {
                same("write", text.charAt(i));
            }
            same("fault");
            same("grid");
            if (from(0, 3) != 0) {
                same("erase");
            }
        }

        String madeText() {
            StringBuilder b = new StringBuilder();
            int nodes = model.told.nodes;
            if (from(0, 4) != 0) {
                nodes = from(2, 8);
                b.append("grid ").append(nodes).append(';');
            }
            int lines = from(0, 9);
            for (int i = 0; i < lines; i++) {
                int u = from(0, nodes - 1);
                int v = from(0, 30) == 0 ? u : (u + from(1, nodes - 1)) % nodes;
                b.append("line ").append(u).append(' ').append(v).append(';');
            }
            int more = from(0, 10);
            for (int i = 0; i < more; i++) {
                b.append(madeThing(lines, nodes)).append(';');
            }
            if (b.length() > 0 && from(0, 12) != 0) {
                b.setLength(b.length() - 1);
            }
            if (from(0, 4) == 0 && b.length() > 0) {
                String odd = " ;x09aA\t" + (char) 233;
                b.setCharAt(from(0, b.length() - 1), odd.charAt(from(0, odd.length() - 1)));
            }
            if (from(0, 25) == 0) {
                b.setLength(0);
                for (int i = from(22, 27); i > 0; i--) {
                    b.append("grid ").append(from(2, 8)).append(i == 1 ? "" : ";");
                }
            }
            return b.toString();
        }

        String madeThing(int lines, int nodes) {
            int sort = from(0, from(0, 20) == 0 ? 5 : 4);
            int places = sort < 2 ? lines : nodes;
            int at = from(0, 25) == 0 ? places : places == 0 ? 0 : from(0, places - 1);
            if (from(0, 2) == 0) {
                return "offer " + sort + " " + at + " " + from(from(0, 15) == 0 ? 0 : 1, from(0, 15) == 0 ? 10 : 9);
            }
            return Model.WORDS[Math.min(sort, 4)] + (from(0, 9) == 0 ? "" : " ") + (from(0, 9) == 0 ? "0" : "") + at;
        }

        void step() {
            switch (from(0, 24)) {
                case 0: case 1: case 2: same("put", from(-1, 5), from(-1, 9)); break;
                case 3: same("spoil", from(-1, 9)); break;
                case 4: same("mend", from(-1, 9)); break;
                case 5: same("cut", from(-1, 10)); break;
                case 6: same("undo"); break;
                case 7: same("keep", from(-1, 2)); break;
                case 8: if (from(0, 2) == 0) { same("back", from(-1, 2)); } break;
                case 9: same("island", from(-1, 8)); break;
                case 10: same("weak", from(-1, 2)); break;
                case 11: same("deal", from(-1, 2)); break;
                case 12: same("lost", from(-1, 10)); break;
                case 13: same("brings", from(-1, 5), from(-1, 9)); break;
                case 14: same("seen", madeAt(), madeLines()); break;
                case 15: same("forget"); break;
                case 16: same("fit"); break;
                case 17: same("ask"); break;
                case 18: same("tray", from(-1, 3)); break;
                case 19: lay(); break;
                case 20: same("take", from(-1, 3), from(-1, 3)); break;
                case 21: same("all", from(-1, 3), from(-1, 3)); break;
                case 22: if (from(0, 3) == 0) { same("drop", from(-1, 3)); } break;
                case 23: for (int what = -1; what <= 14; what++) { same("count", what); } break;
                default: look(); break;
            }
        }

        int lastAt = 0;

        int madeAt() {
            lastAt = from(from(0, 9) == 0 ? -1 : 0, from(0, 9) == 0 ? 10 : 7);
            return lastAt;
        }

        int madeLines() {
            int sort = from(0, 4);
            if (from(0, 4) != 0 && Model.stands(model.told, sort, lastAt)) {
                return Model.lines(model.told, sort, lastAt, model.now.cut);
            }
            return from(-1, 1024);
        }

        void lay() {
            int what = from(-1, 3);
            int v = what == 0 ? from(-1, 100) : what == 1 ? from(-10001, 10001) : from(-1, 9);
            for (int i = from(1, 4); i > 0; i--) {
                same("lay", from(-1, 3), what, v);
            }
        }

        void look() {
            switch (from(0, 2)) {
                case 0:
                    for (int line = -1; line <= model.told.lines.size(); line++) {
                        same("line", line, from(-1, 5));
                        same("line", line, 4);
                    }
                    break;
                case 1:
                    for (int meter = -1; meter <= model.now.meters.size(); meter++) {
                        same("meter", meter, from(-1, 6));
                        same("meter", meter, 4);
                        same("meter", meter, 5);
                    }
                    break;
                default:
                    for (int offer = -1; offer <= model.told.offers.size(); offer++) {
                        same("offer", offer, from(-1, 4));
                        same("offer", offer, 3);
                    }
                    break;
            }
        }

        static final int[] FAR = {Integer.MIN_VALUE, Integer.MAX_VALUE, 1 << 31, 1 << 30, -32, 32, 64, 1 << 16};

        void same(String name, int... a) {
            if (calls == MOST_CALLS) {
                return;
            }
            calls++;
            if (a.length > 0 && from(0, 60) == 0 && !name.equals("write")) {
                a[from(0, a.length - 1)] = FAR[from(0, FAR.length - 1)];
            }
            int got = onDesk(name, a);
            int want = model.call(name, a);
            String call = name + Arrays.toString(a);
            log.add(call + " = " + want);
            if (got != want) {
                wrong++;
                System.out.println("seed " + seed + ", call " + calls + ": " + call + " answered " + got + ", due is " + want);
                if (wrong == 1) {
                    System.out.println(log);
                }
            }
        }

        int onDesk(String name, int[] a) {
            switch (name) {
                case "write": return desk.write(a[0]);
                case "erase": return desk.erase();
                case "fault": return desk.fault();
                case "grid": return desk.grid();
                case "line": return desk.line(a[0], a[1]);
                case "meter": return desk.meter(a[0], a[1]);
                case "offer": return desk.offer(a[0], a[1]);
                case "put": return desk.put(a[0], a[1]);
                case "spoil": return desk.spoil(a[0]);
                case "mend": return desk.mend(a[0]);
                case "cut": return desk.cut(a[0]);
                case "undo": return desk.undo();
                case "keep": return desk.keep(a[0]);
                case "back": return desk.back(a[0]);
                case "island": return desk.island(a[0]);
                case "weak": return desk.weak(a[0]);
                case "deal": return desk.deal(a[0]);
                case "lost": return desk.lost(a[0]);
                case "brings": return desk.brings(a[0], a[1]);
                case "seen": return desk.seen(a[0], a[1]);
                case "forget": return desk.forget();
                case "fit": return desk.fit();
                case "ask": return desk.ask();
                case "tray": return desk.tray(a[0]);
                case "lay": return desk.lay(a[0], a[1], a[2]);
                case "take": return desk.take(a[0], a[1]);
                case "all": return desk.all(a[0], a[1]);
                case "drop": return desk.drop(a[0]);
                default: return desk.count(a[0]);
            }
        }
    }

    /** The document, word by word, with lists and by trying everything. */
    private static final class Model {
        static final String[] WORDS = {"flow", "pair", "node", "wide", "dull"};
        static final int NONE = -1, UNKNOWN = -2, OUTSIDE = -3, NOT = -4, FULL = -5;
        static final int NULL = -11, EMPTY = -12, CAST = -13, ROOM = -14;

        static final class Told {
            int nodes = 3;
            List<int[]> lines = new ArrayList<>();
            List<int[]> meters = new ArrayList<>();
            List<int[]> offers = new ArrayList<>();

            Told copy() {
                Told t = new Told();
                t.nodes = nodes;
                t.lines.addAll(lines);
                t.meters.addAll(meters);
                t.offers.addAll(offers);
                return t;
            }
        }

        static final class Now {
            List<int[]> meters = new ArrayList<>();
            boolean[] broken = new boolean[9];
            boolean[] cut = new boolean[10];

            Now copy() {
                Now n = new Now();
                n.meters.addAll(meters);
                n.broken = broken.clone();
                n.cut = cut.clone();
                return n;
            }
        }

        Told told = new Told();
        Now now = new Now();
        StringBuilder text = new StringBuilder();
        List<Now> past = new ArrayList<>();
        Now[] kept = new Now[2];
        List<int[]> seen = new ArrayList<>();
        List<List<int[]>> trays = new ArrayList<>(Arrays.asList(null, null, null));
        List<Integer> forests = forestsOf(told);

        int call(String name, int[] a) {
            switch (name) {
                case "write": return write(a[0]);
                case "erase": { int had = text.length(); text.setLength(0); return had; }
                case "fault": return new Parse().fault;
                case "grid": return grid();
                case "line": return line(a[0], a[1]);
                case "meter": return meter(a[0], a[1]);
                case "offer": return offer(a[0], a[1]);
                case "put": return put(a[0], a[1]);
                case "spoil": return spoil(a[0], true);
                case "mend": return spoil(a[0], false);
                case "cut": return cut(a[0]);
                case "undo": return undo();
                case "keep": return keep(a[0]);
                case "back": return back(a[0]);
                case "island": return a[0] < 0 || a[0] >= told.nodes ? UNKNOWN : hanging(a[0], tree());
                case "weak": return weak(a[0]);
                case "deal": return deal(a[0]);
                case "lost": return lost(a[0]);
                case "brings": return brings(a[0], a[1]);
                case "seen": return see(a[0], a[1]);
                case "forget": { int had = seen.size(); seen.clear(); return had; }
                case "fit": return fit();
                case "ask": return ask();
                case "tray": return tray(a[0]);
                case "lay": return lay(a[0], a[1], a[2]);
                case "take": return take(a[0], a[1]);
                case "all": return all(a[0], a[1]);
                case "drop": return drop(a[0]);
                default: return count(a[0]);
            }
        }

        int write(int letter) {
            if (letter < 0 || letter > 255) {
                return OUTSIDE;
            }
            if (text.length() == 200) {
                return FULL;
            }
            text.append((char) letter);
            return text.length();
        }

        /** Tokens first, then the clauses. */
        final class Parse {
            final List<String> tokens = new ArrayList<>();
            final List<Integer> places = new ArrayList<>();
            final Told t = told.copy();
            int next = 0;
            int clauses = 0;
            int fault;

            Parse() {
                java.util.regex.Matcher m = java.util.regex.Pattern.compile("[a-z]+|[0-9]+|[^ ]", java.util.regex.Pattern.DOTALL).matcher(text);
                while (m.find()) {
                    tokens.add(m.group());
                    places.add(m.start());
                }
                tokens.add("");
                places.add(text.length());
                fault = parse() ? NONE : places.get(next);
            }

            boolean parse() {
                while (true) {
                    if (!clause()) {
                        return false;
                    }
                    clauses++;
                    if (tokens.get(next).equals("")) {
                        return true;
                    }
                    if (!tokens.get(next).equals(";") || clauses == 24) {
                        return false;
                    }
                    next++;
                }
            }

            boolean clause() {
                String word = tokens.get(next);
                int sort = Arrays.asList(WORDS).indexOf(word);
                boolean room = word.equals("grid") || word.equals("line") && t.lines.size() < 10
                    || sort >= 0 && t.meters.size() < 9 || word.equals("offer") && t.offers.size() < 6;
                if (!room) {
                    return false;
                }
                next++;
                if (word.equals("grid")) {
                    if (!isNumber(2, 8)) { return false; }
                    t.nodes = number();
                    t.lines.clear();
                    t.meters.clear();
                    t.offers.clear();
                } else if (word.equals("line")) {
                    if (!isNumber(0, t.nodes - 1)) { return false; }
                    int u = number();
                    if (!isNumber(0, t.nodes - 1) || Integer.parseInt(tokens.get(next)) == u) { return false; }
                    t.lines.add(new int[] {u, number()});
                } else if (word.equals("offer")) {
                    if (!isNumber(0, 4)) { return false; }
                    int s = number();
                    if (!isNumber(0, (s < 2 ? t.lines.size() : t.nodes) - 1)) { return false; }
                    int at = number();
                    if (!isNumber(1, 9)) { return false; }
                    t.offers.add(new int[] {s, at, number()});
                } else {
                    if (!isNumber(0, (sort < 2 ? t.lines.size() : t.nodes) - 1)) { return false; }
                    t.meters.add(new int[] {sort, number()});
                }
                return true;
            }

            boolean isNumber(int least, int most) {
                String s = tokens.get(next);
                return s.matches("[0-9]{1,2}") && Integer.parseInt(s) >= least && Integer.parseInt(s) <= most;
            }

            int number() {
                return Integer.parseInt(tokens.get(next++));
            }
        }

        int grid() {
            Parse p = new Parse();
            if (p.fault != NONE) {
                return NOT;
            }
            told = p.t;
            text.setLength(0);
            now = new Now();
            now.meters.addAll(told.meters);
            past.clear();
            kept = new Now[2];
            trays = new ArrayList<>(Arrays.asList(null, null, null));
            forests = forestsOf(told);
            return p.clauses;
        }

        static boolean stands(Told t, int sort, int at) {
            return at >= 0 && at < (sort < 2 ? t.lines.size() : t.nodes);
        }

        static boolean touches(int[] line, int node) {
            return line[0] == node || line[1] == node;
        }

        static int lines(Told t, int sort, int at, boolean[] cut) {
            int set = 0;
            boolean first = true;
            for (int l = 0; l < t.lines.size(); l++) {
                int[] line = t.lines.get(l);
                if (cut[l]) {
                    continue;
                }
                boolean may;
                switch (sort) {
                    case 0: may = l == at; break;
                    case 1: may = touches(line, t.lines.get(at)[0]) && touches(line, t.lines.get(at)[1]); break;
                    case 2: may = touches(line, at); break;
                    case 3:
                        may = touches(line, at);
                        for (int k = 0; k < t.lines.size(); k++) {
                            int[] way = t.lines.get(k);
                            if (!cut[k] && touches(way, at)) {
                                may |= touches(line, way[0] == at ? way[1] : way[0]);
                            }
                        }
                        break;
                    default:
                        may = touches(line, at) && !first;
                        first = first && !touches(line, at);
                        break;
                }
                if (may) {
                    set |= 1 << l;
                }
            }
            return set;
        }

        static List<Integer> forestsOf(Told t) {
            List<Integer> all = new ArrayList<>();
            for (int set = 0; set < 1 << t.lines.size(); set++) {
                if (parts(t, set) == t.nodes - Integer.bitCount(set)) {
                    all.add(set);
                }
            }
            return all;
        }

        static int parts(Told t, int set) {
            int parts = 0;
            int visited = 0;
            for (int node = 0; node < t.nodes; node++) {
                if ((visited >> node & 1) == 0) {
                    parts++;
                    visited |= reachFrom(t, node, set);
                }
            }
            return parts;
        }

        static int reachFrom(Told t, int node, int set) {
            int reached = 1 << node;
            for (int round = 0; round < t.nodes; round++) {
                for (int l = 0; l < t.lines.size(); l++) {
                    int ends = 1 << t.lines.get(l)[0] | 1 << t.lines.get(l)[1];
                    if ((set >> l & 1) == 1 && (reached & ends) != 0) {
                        reached |= ends;
                    }
                }
            }
            return reached;
        }

        int hanging(int node, int set) {
            return reachFrom(told, node, set);
        }

        int[] masks(boolean[] cut) {
            int[] m = new int[now.meters.size()];
            for (int i = 0; i < m.length; i++) {
                m[i] = now.broken[i] ? 0 : lines(told, now.meters.get(i)[0], now.meters.get(i)[1], cut);
            }
            return m;
        }

        static boolean served(int set, int[] masks) {
            int[] owner = new int[masks.length];
            Arrays.fill(owner, -1);
            for (int l = 0; l < 10; l++) {
                if ((set >> l & 1) == 1 && !seek(l, masks, owner, new boolean[masks.length])) {
                    return false;
                }
            }
            return true;
        }

        static boolean seek(int line, int[] masks, int[] owner, boolean[] tried) {
            for (int m = 0; m < masks.length; m++) {
                if ((masks[m] >> line & 1) == 1 && !tried[m]) {
                    tried[m] = true;
                    if (owner[m] < 0 || seek(owner[m], masks, owner, tried)) {
                        owner[m] = line;
                        return true;
                    }
                }
            }
            return false;
        }

        int treeOf(int[] masks) {
            int best = 0;
            for (int set : forests) {
                if (Integer.bitCount(set) > Integer.bitCount(best) && served(set, masks)) {
                    best = set;
                }
            }
            return best;
        }

        int rankOf(int[] masks) {
            return Integer.bitCount(treeOf(masks));
        }

        int tree() {
            return treeOf(masks(now.cut));
        }

        int rank() {
            return Integer.bitCount(tree());
        }

        int wholeRank() {
            int open = 0;
            for (int l = 0; l < told.lines.size(); l++) {
                open |= now.cut[l] ? 0 : 1 << l;
            }
            return told.nodes - parts(told, open);
        }

        /** The first full choice in the order of choices. */
        int[] servers() {
            int[] chosen = new int[10];
            Arrays.fill(chosen, NONE);
            choose(0, tree(), masks(now.cut), chosen, 0);
            return chosen;
        }

        static boolean choose(int line, int tree, int[] masks, int[] chosen, int used) {
            if (line == 10) {
                return true;
            }
            if ((tree >> line & 1) == 0) {
                return choose(line + 1, tree, masks, chosen, used);
            }
            for (int m = 0; m < masks.length; m++) {
                if ((used >> m & 1) == 0 && (masks[m] >> line & 1) == 1) {
                    chosen[line] = m;
                    if (choose(line + 1, tree, masks, chosen, used | 1 << m)) {
                        return true;
                    }
                    chosen[line] = NONE;
                }
            }
            return false;
        }

        int line(int line, int what) {
            if (line < 0 || line >= told.lines.size()) {
                return UNKNOWN;
            }
            int[] ends = told.lines.get(line);
            switch (what) {
                case 0: return Math.min(ends[0], ends[1]);
                case 1: return Math.max(ends[0], ends[1]);
                case 2: return now.cut[line] ? 1 : 0;
                case 3: return tree() >> line & 1;
                case 4: return servers()[line];
                default: return OUTSIDE;
            }
        }

        int meter(int meter, int what) {
            if (meter < 0 || meter >= now.meters.size()) {
                return UNKNOWN;
            }
            switch (what) {
                case 0: return now.meters.get(meter)[0];
                case 1: return now.meters.get(meter)[1];
                case 2: return now.broken[meter] ? 1 : 0;
                case 3: return masks(now.cut)[meter];
                case 4: return servedBy(meter);
                case 5: {
                    int[] m = masks(now.cut);
                    m[meter] = 0;
                    return !now.broken[meter] && rankOf(m) < rank() ? 1 : 0;
                }
                default: return OUTSIDE;
            }
        }

        int servedBy(int meter) {
            int[] s = servers();
            for (int l = 0; l < 10; l++) {
                if (s[l] == meter) {
                    return l;
                }
            }
            return NONE;
        }

        int offer(int offer, int what) {
            if (offer < 0 || offer >= told.offers.size()) {
                return UNKNOWN;
            }
            if (what < 0 || what > 3) {
                return OUTSIDE;
            }
            int[] o = told.offers.get(offer);
            return what < 3 ? o[what] : brings(o[0], o[1]);
        }

        void remember(Now before) {
            past.add(before);
            if (past.size() > 8) {
                past.remove(0);
            }
        }

        int put(int sort, int at) {
            if (sort >= 0 && sort <= 4 && !stands(told, sort, at)) {
                return UNKNOWN;
            }
            if (sort < 0 || sort > 4) {
                return OUTSIDE;
            }
            if (now.meters.size() == 9) {
                return FULL;
            }
            remember(now.copy());
            now.meters.add(new int[] {sort, at});
            return now.meters.size() - 1;
        }

        int spoil(int meter, boolean broken) {
            if (meter < 0 || meter >= now.meters.size()) {
                return UNKNOWN;
            }
            if (now.broken[meter] == broken) {
                return NOT;
            }
            remember(now.copy());
            now.broken[meter] = broken;
            return rank();
        }

        int cut(int line) {
            if (line < 0 || line >= told.lines.size()) {
                return UNKNOWN;
            }
            if (now.cut[line]) {
                return NOT;
            }
            remember(now.copy());
            now.cut[line] = true;
            return rank();
        }

        int undo() {
            if (past.isEmpty()) {
                return NOT;
            }
            now = past.remove(past.size() - 1);
            return past.size();
        }

        int keep(int k) {
            if (k != 0 && k != 1) {
                return UNKNOWN;
            }
            kept[k] = now.copy();
            return rank();
        }

        int back(int k) {
            if (k != 0 && k != 1) {
                return UNKNOWN;
            }
            if (kept[k] == null) {
                return NOT;
            }
            now = kept[k].copy();
            past.clear();
            return rank();
        }

        int weak(int what) {
            if (what != 0 && what != 1) {
                return OUTSIDE;
            }
            int rank = rank();
            for (int size = 1; size <= now.meters.size(); size++) {
                for (int set = 0; set < 1 << now.meters.size(); set++) {
                    if (Integer.bitCount(set) == size && rank > 0 && isFelt(set, rank)) {
                        return what == 0 ? set : size;
                    }
                }
            }
            return NONE;
        }

        boolean isFelt(int set, int rank) {
            int[] m = masks(now.cut);
            for (int i = 0; i < m.length; i++) {
                if ((set >> i & 1) == 1) {
                    if (now.broken[i]) {
                        return false;
                    }
                    m[i] = 0;
                }
            }
            return rankOf(m) < rank;
        }

        int deal(int what) {
            if (what != 0 && what != 1) {
                return OUTSIDE;
            }
            int best = NONE;
            int bestCost = 0;
            for (int set = 0; set < 1 << told.offers.size(); set++) {
                int[] base = masks(now.cut);
                int[] m = Arrays.copyOf(base, base.length + told.offers.size());
                int cost = 0;
                for (int o = 0; o < told.offers.size(); o++) {
                    if ((set >> o & 1) == 1) {
                        m[base.length + o] = lines(told, told.offers.get(o)[0], told.offers.get(o)[1], now.cut);
                        cost += told.offers.get(o)[2];
                    }
                }
                boolean better = best == NONE || cost < bestCost
                    || cost == bestCost && Integer.bitCount(set) < Integer.bitCount(best);
                if (better && rankOf(m) == wholeRank()) {
                    best = set;
                    bestCost = cost;
                }
            }
            return best == NONE ? NONE : what == 0 ? best : bestCost;
        }

        int lost(int line) {
            if (line < 0 || line >= told.lines.size()) {
                return UNKNOWN;
            }
            if (now.cut[line]) {
                return NOT;
            }
            boolean[] cut = now.cut.clone();
            cut[line] = true;
            return rank() - rankOf(masks(cut));
        }

        int brings(int sort, int at) {
            if (sort >= 0 && sort <= 4 && !stands(told, sort, at)) {
                return UNKNOWN;
            }
            if (sort < 0 || sort > 4) {
                return OUTSIDE;
            }
            int[] base = masks(now.cut);
            int[] m = Arrays.copyOf(base, base.length + 1);
            m[base.length] = lines(told, sort, at, now.cut);
            return rankOf(m) - rank();
        }

        int see(int a, int lines) {
            if (a < 0 || a > 9 || lines < 0 || lines > 1023) {
                return OUTSIDE;
            }
            if (seen.size() == 6) {
                return FULL;
            }
            seen.add(new int[] {a, lines});
            return seen.size();
        }

        int fit() {
            int sorts = 0;
            for (int sort = 0; sort < 5; sort++) {
                boolean so = true;
                for (int[] s : seen) {
                    so = so && stands(told, sort, s[0]) && lines(told, sort, s[0], now.cut) == s[1];
                }
                sorts |= so ? 1 << sort : 0;
            }
            return sorts;
        }

        int ask() {
            int sorts = fit();
            int best = NONE;
            int bestPart = 0;
            for (int a = 0; a < 10; a++) {
                java.util.Map<Integer, Integer> sizes = new java.util.TreeMap<>();
                for (int sort = 0; sort < 5; sort++) {
                    if ((sorts >> sort & 1) == 1) {
                        sizes.merge(stands(told, sort, a) ? lines(told, sort, a, now.cut) : 0, 1, Integer::sum);
                    }
                }
                if (sizes.size() > 1) {
                    int part = java.util.Collections.max(sizes.values());
                    if (best == NONE || part < bestPart) {
                        best = a;
                        bestPart = part;
                    }
                }
            }
            return best;
        }

        static boolean isTray(int tray) {
            return tray >= 0 && tray <= 2;
        }

        int tray(int tray) {
            if (!isTray(tray)) {
                return UNKNOWN;
            }
            trays.set(tray, new ArrayList<>());
            return 0;
        }

        int lay(int tray, int what, int v) {
            if (!isTray(tray)) {
                return UNKNOWN;
            }
            if (what == 2 && (v < 0 || v >= now.meters.size())) {
                return UNKNOWN;
            }
            if (what < 0 || what > 2 || what == 0 && (v < 0 || v > 99) || what == 1 && (v < -9999 || v > 9999)) {
                return OUTSIDE;
            }
            if (trays.get(tray) == null) {
                return NULL;
            }
            if (trays.get(tray).size() == 8) {
                return ROOM;
            }
            trays.get(tray).add(new int[] {what, v});
            return trays.get(tray).size();
        }

        int take(int tray, int what) {
            if (!isTray(tray)) {
                return UNKNOWN;
            }
            if (what < 0 || what > 2) {
                return OUTSIDE;
            }
            List<int[]> row = trays.get(tray);
            if (row == null) {
                return NULL;
            }
            if (row.isEmpty()) {
                return EMPTY;
            }
            if (row.get(row.size() - 1)[0] != what) {
                return CAST;
            }
            int v = row.remove(row.size() - 1)[1];
            return what == 1 ? v + 50000 : v;
        }

        int all(int tray, int what) {
            if (!isTray(tray)) {
                return UNKNOWN;
            }
            if (what < 0 || what > 2) {
                return OUTSIDE;
            }
            if (trays.get(tray) == null) {
                return NULL;
            }
            int answer = what == 1 ? 500000 : 0;
            for (int[] thing : trays.get(tray)) {
                if (thing[0] == what) {
                    answer = what == 0 ? answer + 1 : what == 1 ? answer + thing[1] : answer | 1 << thing[1];
                }
            }
            return answer;
        }

        int drop(int tray) {
            if (!isTray(tray)) {
                return UNKNOWN;
            }
            if (trays.get(tray) == null) {
                return NULL;
            }
            int had = trays.get(tray).size();
            trays.set(tray, null);
            return had;
        }

        int count(int what) {
            switch (what) {
                case 0: return told.nodes;
                case 1: return told.lines.size();
                case 2: return now.meters.size();
                case 3: return told.offers.size();
                case 4: return rank();
                case 5: return wholeRank();
                case 6: return tree();
                case 7: return spare();
                case 8: return brokenSet();
                case 9: return seen.size();
                case 10: return trays.stream().mapToInt(t -> t == null ? 0 : t.size()).sum();
                case 11: return past.size();
                case 12: return text.length();
                case 13: return parts(told, tree());
                default: return OUTSIDE;
            }
        }

        int spare() {
            int set = 0;
            for (int m = 0; m < now.meters.size(); m++) {
                if (!now.broken[m] && servedBy(m) == NONE) {
                    set |= 1 << m;
                }
            }
            return set;
        }

        int brokenSet() {
            int set = 0;
            for (int m = 0; m < now.meters.size(); m++) {
                set |= now.broken[m] ? 1 << m : 0;
            }
            return set;
        }
    }
}
