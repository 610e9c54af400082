import java.util.ArrayList;
import java.util.Arrays;
import java.util.HashMap;
import java.util.HashSet;
import java.util.List;
import java.util.Map;
import java.util.NoSuchElementException;
import java.util.Set;
import java.util.TreeSet;

/** The document's words done as plainly as can be, with the whole Java library and without a thought of speed. */
final class Plain {
    static final int NONE = -1;
    static final List<String> TOLD = Arrays.asList(("bench box fade floor bleed fuse noise leak jump warm or and not in "
            + "lies used hold pass spread cell strip after near").split(" "));

    static final class Fault extends RuntimeException {
        private static final long serialVersionUID = 1;
        final int kind;
        final int place;

        Fault(int kind, int place) {
            super(null, null, false, false);
            this.kind = kind;
            this.place = place;
        }
    }

    static final class Token {
        String text;
        int place;
        /** 'w', 'n', 's', 'x' (no TOKEN), 'e' (the end). */
        char sort;

        boolean is(String s) {
            return sort != 'x' && sort != 'e' && text.equals(s);
        }

        boolean isName() {
            return sort == 'w' && !TOLD.contains(text);
        }
    }

    /** All TOKENS of a text; behind the last one its end, or the place where there is too much. */
    static List<Token> tokens(String text, int limit) {
        List<Token> all = new ArrayList<>();
        int i = 0;
        while (true) {
            while (i < text.length() && (text.charAt(i) == 32 || text.charAt(i) == 10)) {
                i++;
            }
            Token t = new Token();
            all.add(t);
            t.place = i;
            t.text = "";
            if (text.length() > limit && i >= limit) {
                t.sort = 'x';
                t.place = limit;
                return all;
            }
            if (i == text.length()) {
                t.sort = 'e';
                return all;
            }
            int j = i;
            while (j < text.length() && (text.substring(j, j + 1).matches("[a-z0-9]"))) {
                j++;
            }
            if (j == i) {
                t.text = text.substring(i, i + 1);
                t.sort = ";+-()<=>.".contains(t.text) ? 's' : 'x';
                i++;
            } else {
                t.text = text.substring(i, j);
                t.sort = t.text.matches("[a-z]{1,6}") ? 'w' : t.text.matches("[0-9]{1,3}") ? 'n' : 'x';
                i = j;
            }
        }
    }

    static final class Reader {
        final List<Token> all;
        int at;

        Reader(String text, int limit) {
            all = tokens(text, limit);
        }

        Token now() {
            return all.get(at);
        }

        Fault fault(int kind) {
            return new Fault(kind, now().place);
        }

        boolean skip(String s) {
            if (now().is(s)) {
                at++;
                return true;
            }
            return false;
        }

        void need(String s) {
            if (!skip(s)) {
                throw fault(1);
            }
        }

        int number(int least, int most) {
            if (now().sort != 'n') {
                throw fault(1);
            }
            int n = Integer.parseInt(now().text);
            if (n < least || n > most) {
                throw fault(2);
            }
            at++;
            return n;
        }
    }

    interface One {
        boolean met(int c);
    }

    static final class Mend {
        int place;
        int out;
        int in;
        int day;
    }

    static final class Pack {
        List<Integer> first;
        List<Integer> cells;
        int s;
        int day;
        final List<Mend> mends = new ArrayList<>();

        Pack copy() {
            Pack p = new Pack();
            p.first = first;
            p.cells = new ArrayList<>(cells);
            p.s = s;
            p.day = day;
            p.mends.addAll(mends);
            return p;
        }

        int lastDay() {
            return mends.isEmpty() ? day : mends.get(mends.size() - 1).day;
        }
    }

    /** What an image keeps. */
    static final class Held {
        List<String> benches = new ArrayList<>();
        List<String> boxes = new ArrayList<>();
        Map<String, int[]> laws = new HashMap<>();
        List<Integer> cells = new ArrayList<>();
        List<int[]> readings = new ArrayList<>();
        List<int[]> rests = new ArrayList<>();
        String rule;
        List<Pack> packs = new ArrayList<>();

        Held copy() {
            Held h = new Held();
            h.benches.addAll(benches);
            h.boxes.addAll(boxes);
            h.laws.putAll(laws);
            h.cells.addAll(cells);
            h.readings.addAll(readings);
            h.rests.addAll(rests);
            h.rule = rule;
            for (Pack p : packs) {
                h.packs.add(p.copy());
            }
            return h;
        }

        int law(String name, int usual) {
            return laws.containsKey(name) ? laws.get(name)[0] : usual;
        }
    }

    static final class Strip {
        String name;
        int a;
        int b;
        final Set<Integer> after = new TreeSet<>();
        final List<int[]> near = new ArrayList<>();
    }

    String tape = "";
    Held h = new Held();
    final Held[] kept = new Held[2];
    List<Strip> strips = new ArrayList<>();
    int lastFault;
    int[] rowsTold = {};
    int rowsUneven = NONE;
    int rowsUnlike = NONE;
    int[] swapsTold = {};
    int[] swapsNumbers = {NONE, NONE, NONE};
    int[] shareTold = {};
    int bestOut = NONE;
    int bestIn = NONE;
    int lostTold = NONE;
    List<Integer> orderTold = new ArrayList<>();

    private String takeTape() {
        String t = tape;
        tape = "";
        return t;
    }

    int feed(int a, int b, int c, int d, int e) {
        if (tape.length() + 20 > 540) {
            return NONE;
        }
        for (int n : new int[] {a, b, c, d, e}) {
            tape += "" + (char) (n >>> 24) + (char) (n >>> 16 & 255) + (char) (n >>> 8 & 255) + (char) (n & 255);
        }
        return tape.length();
    }

    boolean end(int n) {
        if (n < 0 || n > tape.length()) {
            return false;
        }
        tape = tape.substring(0, n);
        return true;
    }

    int house() {
        Held n = new Held();
        try {
            Reader r = new Reader(takeTape(), 500);
            int lines = 0;
            while (r.now().sort != 'e') {
                houseLine(r, n);
                r.need(";");
                lines++;
            }
            lastFault = 0;
            h = n;
            return lines;
        } catch (Fault f) {
            lastFault = f.kind;
            return -1 - f.place;
        }
    }

    private static void houseLine(Reader r, Held n) {
        String w = r.now().text;
        if (r.now().is("bench") || r.now().is("box")) {
            List<String> sort = w.equals("bench") ? n.benches : n.boxes;
            if (sort.size() == (w.equals("bench") ? 6 : 8)) {
                throw r.fault(4);
            }
            r.at++;
            if (!r.now().isName()) {
                throw r.fault(1);
            }
            if (n.benches.contains(r.now().text) || n.boxes.contains(r.now().text)) {
                throw r.fault(3);
            }
            sort.add(r.now().text);
            r.at++;
            return;
        }
        if (r.now().sort != 'w' || !TOLD.contains(w) || TOLD.indexOf(w) > TOLD.indexOf("warm")) {
            throw r.fault(1);
        }
        if (n.laws.containsKey(w)) {
            throw r.fault(3);
        }
        r.at++;
        switch (w) {
            case "fade":
                n.laws.put(w, new int[] {r.number(0, 99), r.number(0, 99)});
                return;
            case "floor":
            case "fuse":
                n.laws.put(w, new int[] {r.number(1, 999)});
                return;
            case "bleed":
                n.laws.put(w, new int[] {r.number(1, 99)});
                return;
            default:
                n.laws.put(w, new int[] {r.number(0, 99)});
        }
    }

    int fault() {
        return lastFault;
    }

    int cell(int box) {
        if (h.cells.size() == 60 || box < 0 || box >= h.boxes.size()) {
            return NONE;
        }
        h.cells.add(box);
        return h.cells.size() - 1;
    }

    private boolean isCell(int c) {
        return c >= 0 && c < h.cells.size();
    }

    int read(int c, int b, int hold, int pass) {
        if (h.readings.size() == 200 || !isCell(c) || b < 0 || b >= h.benches.size()) {
            return NONE;
        }
        if (hold < 1 || hold > 400 || pass < 1 || pass > 999) {
            return NONE;
        }
        h.readings.add(new int[] {c, b, hold, pass});
        return h.readings.size() - 1;
    }

    private List<int[]> restsOf(int c) {
        List<int[]> some = new ArrayList<>();
        for (int[] r : h.rests) {
            if (r[0] == c) {
                some.add(r);
            }
        }
        return some;
    }

    int rest(int c, int day, int mv, int warm) {
        if (h.rests.size() == 200 || !isCell(c) || day < 0 || day > 99 || mv < 0 || mv > 4200) {
            return NONE;
        }
        if (warm < 0 || warm > 99) {
            return NONE;
        }
        for (int[] r : restsOf(c)) {
            if (r[1] >= day) {
                return NONE;
            }
        }
        h.rests.add(new int[] {c, day, mv, warm});
        return h.rests.size() - 1;
    }

    /** LEANS in HOLD and PASS of all JOINED BENCHES. */
    private Map<Integer, int[]> joined() {
        Map<Integer, int[]> j = new HashMap<>();
        if (h.benches.isEmpty()) {
            return j;
        }
        j.put(0, new int[] {0, 0});
        while (true) {
            int best = NONE;
            Set<Integer> bestShared = new TreeSet<>();
            for (int b = 0; b < h.benches.size(); b++) {
                Set<Integer> shared = new TreeSet<>();
                for (int[] r : h.readings) {
                    for (int[] q : h.readings) {
                        if (r[0] == q[0] && r[1] == b && j.containsKey(q[1]) && !j.containsKey(b)) {
                            shared.add(r[0]);
                        }
                    }
                }
                if (shared.size() > bestShared.size()) {
                    best = b;
                    bestShared = shared;
                }
            }
            if (best == NONE) {
                return j;
            }
            int[] lean = new int[2];
            for (int what = 0; what < 2; what++) {
                List<Integer> by = new ArrayList<>();
                for (int c : bestShared) {
                    for (int[] r : h.readings) {
                        if (r[0] == c && r[1] == best) {
                            by.add(r[2 + what] - truth(c, what, j));
                            break;
                        }
                    }
                }
                by.sort(null);
                lean[what] = by.get((by.size() - 1) / 2);
            }
            j.put(best, lean);
        }
    }

    /** All of a CELL's HOLDS (what 0) or PASSES less the LEANS. */
    private List<Integer> straight(int c, int what, Map<Integer, int[]> j) {
        List<Integer> some = new ArrayList<>();
        for (int[] r : h.readings) {
            if (r[0] == c && j.containsKey(r[1])) {
                some.add(r[2 + what] - j.get(r[1])[what]);
            }
        }
        return some;
    }

    private int truth(int c, int what, Map<Integer, int[]> j) {
        List<Integer> some = straight(c, what, j);
        if (some.isEmpty()) {
            return NONE;
        }
        long sum = 0;
        for (int v : some) {
            sum += v;
        }
        return (int) Math.max(1, sum / some.size());
    }

    int lean(int b, int what) {
        if (b < 0 || b >= h.benches.size() || what < 0 || what > 2) {
            throw new NoSuchElementException();
        }
        Map<Integer, int[]> j = joined();
        if (what == 2) {
            return j.containsKey(b) ? 1 : 0;
        }
        return j.containsKey(b) ? j.get(b)[what] : 0;
    }

    private int spread(int c) {
        List<Integer> some = straight(c, 0, joined());
        some.sort(null);
        return some.isEmpty() ? NONE : some.get(some.size() - 1) - some.get(0);
    }

    private int hold(int c) {
        return truth(c, 0, joined());
    }

    private int pass(int c) {
        return truth(c, 1, joined());
    }

    private int flow(int c) {
        int p = pass(c);
        return p == NONE ? 0 : 1000000 / p;
    }

    private int packOf(int c) {
        for (int p = 0; p < h.packs.size(); p++) {
            if (h.packs.get(p).cells.contains(c)) {
                return p;
            }
        }
        return NONE;
    }

    int about(int c, int what) {
        if (!isCell(c)) {
            throw new NoSuchElementException();
        }
        switch (what) {
            case 0:
                return h.cells.get(c);
            case 1:
                return hold(c);
            case 2:
                return pass(c);
            case 3:
                return spread(c);
            case 4:
                return flow(c);
            case 5:
                return packOf(c);
            default:
                throw new NoSuchElementException();
        }
    }

    int again() {
        int best = NONE;
        Map<Integer, int[]> j = joined();
        for (int c = 0; c < h.cells.size(); c++) {
            if (straight(c, 0, j).size() >= 2 && (best == NONE || spread(c) > spread(best))) {
                best = c;
            }
        }
        return best;
    }

    int fall(int c, int what) {
        List<int[]> some = isCell(c) ? restsOf(c) : new ArrayList<>();
        if (some.size() < 2 || what < 0 || what > 1) {
            throw new NoSuchElementException();
        }
        int[] last = some.get(some.size() - 1);
        int above = some.get(0)[2] - last[2];
        int below = last[1] - some.get(0)[1];
        for (int d = below; d > 1; d--) {
            if (above % d == 0 && below % d == 0) {
                above /= d;
                below /= d;
            }
        }
        return what == 0 ? above : below;
    }

    int lies(int c) {
        if (!isCell(c)) {
            return NONE;
        }
        List<int[]> some = restsOf(c);
        int bits = 0;
        if (some.size() > 1 && fall(c, 0) > h.law("leak", 3) * fall(c, 1)) {
            bits |= 1;
        }
        for (int i = 0; i < some.size(); i++) {
            if (i > 0) {
                int days = some.get(i)[1] - some.get(i - 1)[1];
                if (some.get(i - 1)[2] - some.get(i)[2] > h.law("jump", 20) * days) {
                    bits |= 2;
                }
            }
            if (some.get(i)[3] >= h.law("warm", 40)) {
                bits |= 4;
            }
        }
        return bits;
    }

    int days(int r) {
        if (r < 1 || r > 99) {
            return NONE;
        }
        int d = 1;
        while (d * r <= 2 * h.law("noise", 2)) {
            d++;
        }
        return d;
    }

    private int ones;

    private One cond(Reader r, int depth) {
        One a = allOf(r, depth);
        while (r.skip("or")) {
            One left = a;
            One right = allOf(r, depth);
            a = c -> left.met(c) || right.met(c);
        }
        return a;
    }

    private One allOf(Reader r, int depth) {
        One a = one(r, depth);
        while (r.skip("and")) {
            One left = a;
            One right = one(r, depth);
            a = c -> left.met(c) && right.met(c);
        }
        return a;
    }

    private One one(Reader r, int depth) {
        Token t = r.now();
        boolean starts = t.is("(") || t.is("not") || t.is("in") || t.is("lies") || t.is("used") || t.is("hold")
                || t.is("pass") || t.is("spread") || t.is("cell");
        if (!starts) {
            throw r.fault(1);
        }
        if (ones == 20 || depth == 9) {
            throw r.fault(4);
        }
        ones++;
        r.at++;
        switch (t.text) {
            case "(":
                One inner = cond(r, depth + 1);
                r.need(")");
                return inner;
            case "not":
                One not = one(r, depth + 1);
                return c -> !not.met(c);
            case "in":
                if (!r.now().isName()) {
                    throw r.fault(1);
                }
                int box = h.boxes.indexOf(r.now().text);
                if (box < 0) {
                    throw r.fault(3);
                }
                r.at++;
                return c -> h.cells.get(c) == box;
            case "lies":
                return c -> lies(c) > 0;
            case "used":
                return c -> packOf(c) != NONE;
            default:
                Token sign = r.now();
                if (!sign.is("<") && !sign.is("=") && !sign.is(">")) {
                    throw r.fault(1);
                }
                r.at++;
                int n = r.number(0, 999);
                return c -> compares(t.text, c, sign.text, n);
        }
    }

    private boolean compares(String what, int c, String sign, int n) {
        int v = what.equals("cell") ? c : what.equals("hold") ? hold(c) : what.equals("pass") ? pass(c) : spread(c);
        return v != NONE && (sign.equals("<") ? v < n : sign.equals("=") ? v == n : v > n);
    }

    private One parseRule(String text) {
        Reader r = new Reader(text, 200);
        ones = 0;
        One all = cond(r, 1);
        if (r.now().sort != 'e') {
            throw r.fault(1);
        }
        return all;
    }

    int rule() {
        String text = takeTape();
        try {
            parseRule(text);
            h.rule = text;
            lastFault = 0;
            return ones;
        } catch (Fault f) {
            lastFault = f.kind;
            return -1 - f.place;
        }
    }

    int meets(int k) {
        if (h.rule == null) {
            return NONE;
        }
        One all = parseRule(h.rule);
        List<Integer> some = new ArrayList<>();
        for (int c = 0; c < h.cells.size(); c++) {
            if (all.met(c)) {
                some.add(c);
            }
        }
        if (k == NONE) {
            return some.size();
        }
        return k >= 0 && k < some.size() ? some.get(k) : NONE;
    }

    /** The tape's CELLS; null, if they are not as told. */
    private List<Integer> picked(int least, int most, boolean free) {
        String t = takeTape();
        if (t.length() < least || t.length() > most) {
            return null;
        }
        List<Integer> some = new ArrayList<>();
        for (char c : t.toCharArray()) {
            if (!isCell(c) || some.contains((int) c) || hold(c) == NONE || free && packOf(c) != NONE) {
                return null;
            }
            some.add((int) c);
        }
        return some;
    }

    private static int min(long[] a) {
        return (int) Arrays.stream(a).min().getAsLong();
    }

    private static int max(long[] a) {
        return (int) Arrays.stream(a).max().getAsLong();
    }

    private static long[] sums(int[] values, int[] row, int s) {
        long[] sums = new long[s];
        for (int i = 0; i < row.length; i++) {
            sums[row[i]] += values[i];
        }
        return sums;
    }

    int rows(int s) {
        List<Integer> cells = picked(2, 12, false);
        if (cells == null || s < 1 || cells.size() % s != 0) {
            return NONE;
        }
        int n = cells.size();
        int[] holds = new int[n];
        int[] flows = new int[n];
        for (int i = 0; i < n; i++) {
            holds[i] = hold(cells.get(i));
            flows[i] = flow(cells.get(i));
        }
        int[][] best = {null};
        everyWay(new int[n], 0, 0, s, n / s, holds, flows, best);
        rowsTold = best[0];
        long[] sums = sums(holds, rowsTold, s);
        rowsUneven = max(sums) - min(sums);
        long[] flowSums = sums(flows, rowsTold, s);
        rowsUnlike = max(flowSums) - min(flowSums);
        return min(sums);
    }

    private static void everyWay(int[] row, int i, int used, int s, int each, int[] holds, int[] flows, int[][] best) {
        if (i == row.length) {
            if (best[0] == null || Arrays.compare(worth(row, s, holds, flows), worth(best[0], s, holds, flows)) > 0) {
                best[0] = row.clone();
            }
            return;
        }
        for (int r = 0; r < Math.min(s, used + 1); r++) {
            int in = 0;
            for (int k = 0; k < i; k++) {
                in += row[k] == r ? 1 : 0;
            }
            if (in < each) {
                row[i] = r;
                everyWay(row, i + 1, Math.max(used, r + 1), s, each, holds, flows, best);
            }
        }
    }

    private static int[] worth(int[] row, int s, int[] holds, int[] flows) {
        long[] sums = sums(holds, row, s);
        long[] flowSums = sums(flows, row, s);
        return new int[] {min(sums), min(sums) - max(sums), min(flowSums) - max(flowSums)};
    }

    int rowAt(int i) {
        return i >= 0 && i < rowsTold.length ? rowsTold[i] : NONE;
    }

    int rowsBy(int what) {
        return what == 0 ? rowsUneven : what == 1 ? rowsUnlike : NONE;
    }

    int swaps(int s) {
        List<Integer> cells = picked(2, 40, false);
        if (cells == null || s < 1 || cells.size() % s != 0) {
            return NONE;
        }
        int n = cells.size();
        int[] holds = new int[n];
        List<Integer> order = new ArrayList<>();
        int total = 0;
        for (int i = 0; i < n; i++) {
            holds[i] = hold(cells.get(i));
            total += holds[i];
            order.add(i);
        }
        order.sort((x, y) -> holds[y] - holds[x]);
        int[] row = new int[n];
        int r = 0;
        int step = 1;
        for (int i : order) {
            row[i] = r;
            r += step;
            if (r == s || r < 0) {
                step = -step;
                r += step;
            }
        }
        int times = 0;
        while (times < 500 && swapOne(row, holds, s)) {
            times++;
        }
        swapsTold = row;
        long[] sums = sums(holds, row, s);
        swapsNumbers = new int[] {total / s, times, max(sums) - min(sums)};
        return min(sums);
    }

    private static boolean swapOne(int[] row, int[] holds, int s) {
        long[] sums = sums(holds, row, s);
        int weak = min(sums);
        int uneven = max(sums) - weak;
        for (int i = 0; i < row.length; i++) {
            for (int j = i + 1; j < row.length; j++) {
                if (row[i] != row[j]) {
                    int[] other = row.clone();
                    other[i] = row[j];
                    other[j] = row[i];
                    long[] then = sums(holds, other, s);
                    if (min(then) > weak || min(then) == weak && max(then) - min(then) < uneven) {
                        System.arraycopy(other, 0, row, 0, row.length);
                        return true;
                    }
                }
            }
        }
        return false;
    }

    int swapAt(int i) {
        return i >= 0 && i < swapsTold.length ? swapsTold[i] : NONE;
    }

    int swapsBy(int what) {
        return what >= 0 && what < 3 ? swapsNumbers[what] : NONE;
    }

    int most(int s, int p, int least) {
        List<Integer> cells = picked(1, 60, false);
        if (cells == null || s < 1 || s > 20 || p < 1 || p > 2 || least < 1 || least > 800) {
            return NONE;
        }
        int[] holds = new int[cells.size()];
        for (int i = 0; i < holds.length; i++) {
            holds[i] = hold(cells.get(i));
        }
        Arrays.sort(holds);
        int packs = 0;
        // so many PACKS want the strongest CELLS there are, the strongest of them with the weakest of them
        for (int want = 1; want * s * p <= holds.length; want++) {
            int[] strong = Arrays.copyOfRange(holds, holds.length - want * s * p, holds.length);
            boolean can = true;
            for (int i = 0; i < want * s; i++) {
                can &= (p == 1 ? strong[i] : strong[i] + strong[strong.length - 1 - i]) >= least;
            }
            packs = can ? want : packs;
        }
        return packs;
    }

    int share(int k) {
        String t = takeTape();
        if (t.isEmpty() || t.length() > 9 || k < 1 || k > 4) {
            return NONE;
        }
        int n = t.length();
        int[] hours = new int[n];
        int ways = 1;
        for (int i = 0; i < n; i++) {
            hours[i] = t.charAt(i);
            ways *= k;
            if (hours[i] < 1 || hours[i] > 99) {
                return NONE;
            }
        }
        int[] best = null;
        for (int w = 0; w < ways; w++) {
            int[] bench = new int[n];
            int rest = w;
            for (int i = n - 1; i >= 0; i--) {
                bench[i] = rest % k;
                rest /= k;
            }
            if (best == null || max(sums(hours, bench, k)) < max(sums(hours, best, k))) {
                best = bench;
            }
        }
        shareTold = best;
        return max(sums(hours, best, k));
    }

    int shareAt(int i) {
        return i >= 0 && i < shareTold.length ? shareTold[i] : NONE;
    }

    int pack(int s, int day) {
        List<Integer> cells = picked(2, 40, true);
        if (cells == null || s < 1 || cells.size() % s != 0 || day < 0 || day > 999 || h.packs.size() == 10) {
            return NONE;
        }
        Pack p = new Pack();
        p.first = new ArrayList<>(cells);
        p.cells = cells;
        p.s = s;
        p.day = day;
        h.packs.add(p);
        return h.packs.size() - 1;
    }

    private boolean isPack(int p) {
        return p >= 0 && p < h.packs.size();
    }

    private static List<Integer> rowOf(Pack p, int r) {
        int each = p.cells.size() / p.s;
        return p.cells.subList(r * each, (r + 1) * each);
    }

    int row(int p, int r, int what) {
        if (!isPack(p) || r < 0 || r >= h.packs.get(p).s || what < 0 || what > 2) {
            throw new NoSuchElementException();
        }
        return about(h.packs.get(p), r, what);
    }

    private int about(Pack p, int r, int what) {
        int hold = 0;
        int flow = 0;
        for (int c : rowOf(p, r)) {
            hold += hold(c);
            flow += flow(c);
        }
        if (what < 2) {
            return what == 0 ? hold : flow;
        }
        int[] fade = h.laws.getOrDefault("fade", new int[] {2, 1});
        long wear = 10 * fade[0] + fade[1] * (1000000 / flow) / 10;
        for (int n = 0; n < 100000; n++) {
            if (hold * (1000000 - n * wear) < h.law("floor", 100) * 1000000L) {
                return n;
            }
        }
        return 100000;
    }

    int inPack(int p, int i) {
        return isPack(p) && i >= 0 && i < h.packs.get(p).cells.size() ? h.packs.get(p).cells.get(i) : NONE;
    }

    private int life(Pack p) {
        return about(p, ends(p), 2);
    }

    private int ends(Pack p) {
        int first = 0;
        int[] all = new int[p.s];
        for (int r = 0; r < p.s; r++) {
            all[r] = about(p, r, 2);
            first = all[r] < all[first] ? r : first;
        }
        return first;
    }

    int life(int p) {
        return isPack(p) ? life(h.packs.get(p)) : NONE;
    }

    int ends(int p) {
        return isPack(p) ? ends(h.packs.get(p)) : NONE;
    }

    boolean mend(int p, int out, int in, int day) {
        int all = 0;
        for (Pack k : h.packs) {
            all += k.mends.size();
        }
        if (all == 30 || !isPack(p) || !isCell(out) || !isCell(in) || day < 0 || day > 999) {
            return false;
        }
        if (packOf(out) != p || packOf(in) != NONE || hold(in) == NONE || day < h.packs.get(p).lastDay()) {
            return false;
        }
        Mend m = new Mend();
        m.place = h.packs.get(p).cells.indexOf(out);
        m.out = out;
        m.in = in;
        m.day = day;
        h.packs.get(p).cells.set(m.place, in);
        h.packs.get(p).mends.add(m);
        return true;
    }

    int bestMend(int p) {
        List<Integer> spare = picked(1, 10, true);
        if (spare == null || !isPack(p)) {
            return NONE;
        }
        int best = NONE;
        for (int i = 0; i < h.packs.get(p).cells.size(); i++) {
            for (int c : spare) {
                Pack other = h.packs.get(p).copy();
                other.cells.set(i, c);
                int then = life(other);
                if (then > best) {
                    best = then;
                    bestOut = h.packs.get(p).cells.get(i);
                    bestIn = c;
                }
            }
        }
        return best;
    }

    int bestBy(int what) {
        return what == 0 ? bestOut : what == 1 ? bestIn : NONE;
    }

    int balance(int p) {
        String t = takeTape();
        if (!isPack(p) || t.length() != h.packs.get(p).s) {
            return NONE;
        }
        long[] full = new long[t.length()];
        for (int r = 0; r < full.length; r++) {
            if (t.charAt(r) > 100) {
                return NONE;
            }
            full[r] = row(p, r, 0) * t.charAt(r) / 100;
        }
        int most = 0;
        lostTold = 0;
        for (long f : full) {
            most = (int) Math.max(most, f - min(full));
            lostTold += f - min(full);
        }
        int hours = 0;
        while (hours * h.law("bleed", 5) < most) {
            hours++;
        }
        return hours;
    }

    int lost() {
        return lostTold;
    }

    int shorted(int c) {
        if (!isCell(c) || packOf(c) == NONE) {
            return NONE;
        }
        Pack p = h.packs.get(packOf(c));
        int gone = 0;
        int sum = 0;
        for (int r = 0; r < p.s; r++) {
            if (rowOf(p, r).contains(c)) {
                for (int other : rowOf(p, r)) {
                    if (other != c) {
                        int given = 37000 / (pass(c) + pass(other));
                        sum += given;
                        gone += given > h.law("fuse", 100) ? 1 : 0;
                    }
                }
            }
        }
        return 10 * gone + (sum > h.law("fuse", 100) ? 1 : 0);
    }

    int held(int box, int day) {
        if (box < 0 || box >= h.boxes.size() || day < -1 || day > 999) {
            return NONE;
        }
        int bits = 0;
        for (int p = 0; p < h.packs.size(); p++) {
            Pack k = h.packs.get(p);
            if (day != NONE && k.day > day) {
                continue;
            }
            List<Integer> then = new ArrayList<>(k.first);
            Set<Integer> ever = new HashSet<>(then);
            for (Mend m : k.mends) {
                ever.add(m.in);
                if (m.day <= day) {
                    then.set(m.place, m.in);
                }
            }
            for (int c : day == NONE ? ever : then) {
                bits |= h.cells.get(c) == box ? 1 << p : 0;
            }
        }
        return bits;
    }

    int welds() {
        List<Strip> all = new ArrayList<>();
        try {
            Reader r = new Reader(takeTape(), 400);
            while (r.now().sort != 'e') {
                if (r.now().is("strip") && all.size() == 12) {
                    throw r.fault(4);
                }
                r.need("strip");
                all.add(strip(r, all));
                r.need(";");
            }
            strips = all;
            lastFault = 0;
            return all.size();
        } catch (Fault f) {
            lastFault = f.kind;
            return -1 - f.place;
        }
    }

    private static int numberOf(String name, List<Strip> all) {
        for (int i = 0; i < all.size(); i++) {
            if (all.get(i).name.equals(name)) {
                return i;
            }
        }
        return NONE;
    }

    private static Strip strip(Reader r, List<Strip> all) {
        Strip s = new Strip();
        if (!r.now().isName()) {
            throw r.fault(1);
        }
        s.name = r.now().text;
        if (numberOf(s.name, all) != NONE) {
            throw r.fault(3);
        }
        r.at++;
        s.a = node(r);
        s.b = node(r);
        while (r.skip("after")) {
            if (!r.now().isName()) {
                throw r.fault(1);
            }
            if (numberOf(r.now().text, all) == NONE) {
                throw r.fault(3);
            }
            s.after.add(numberOf(r.now().text, all));
            r.at++;
        }
        while (r.skip("near")) {
            s.near.add(new int[] {node(r), node(r)});
        }
        return s;
    }

    /** CELL + has 100 more than CELL -. */
    private static int node(Reader r) {
        int n = r.number(0, 59);
        if (r.skip("+")) {
            return n + 100;
        }
        r.need("-");
        return n;
    }

    /** How much higher other is than from, going along CELLS and strips; null: they don't hang together. */
    private Integer lift(int from, int other, List<Integer> done) {
        Map<Integer, Integer> high = new HashMap<>();
        List<Integer> open = new ArrayList<>();
        high.put(from, 0);
        open.add(from);
        while (!open.isEmpty()) {
            int n = open.remove(0);
            int twin = n >= 100 ? n - 100 : n + 100;
            if (high.putIfAbsent(twin, high.get(n) + (n >= 100 ? -1 : 1)) == null) {
                open.add(twin);
            }
            for (int k : done) {
                Strip s = strips.get(k);
                int across = s.a == n ? s.b : s.b == n ? s.a : n;
                if (high.putIfAbsent(across, high.get(n)) == null) {
                    open.add(across);
                }
            }
        }
        return high.get(other);
    }

    private boolean isShort(int k, List<Integer> done) {
        Strip s = strips.get(k);
        Integer by = lift(s.a, s.b, done);
        if (by != null && by != 0) {
            return true;
        }
        List<Integer> then = new ArrayList<>(done);
        then.add(k);
        for (int[] near : s.near) {
            Integer apart = lift(near[0], near[1], then);
            if (apart != null && Math.abs(apart) >= 2) {
                return true;
            }
        }
        return false;
    }

    private List<Integer> goOn(List<Integer> done, Set<Set<Integer>> hopeless) {
        if (done.size() == strips.size()) {
            return done;
        }
        if (hopeless.contains(new HashSet<>(done))) {
            return null;
        }
        for (int k = 0; k < strips.size(); k++) {
            if (!done.contains(k) && done.containsAll(strips.get(k).after) && !isShort(k, done)) {
                List<Integer> then = new ArrayList<>(done);
                then.add(k);
                List<Integer> all = goOn(then, hopeless);
                if (all != null) {
                    return all;
                }
            }
        }
        hopeless.add(new HashSet<>(done));
        return null;
    }

    int order() {
        List<Integer> all = goOn(new ArrayList<>(), new HashSet<>());
        if (all == null) {
            return NONE;
        }
        orderTold = all;
        return all.size();
    }

    int orderAt(int k) {
        return k >= 0 && k < orderTold.size() ? orderTold.get(k) : NONE;
    }

    int check() {
        String t = takeTape();
        List<Integer> done = new ArrayList<>();
        for (int i = 0; i < t.length(); i++) {
            int k = t.charAt(i);
            if (k >= strips.size() || done.contains(k) || !done.containsAll(strips.get(k).after) || isShort(k, done)) {
                return i;
            }
            done.add(k);
        }
        return done.size() == strips.size() ? NONE : t.length();
    }

    boolean image(int k) {
        if (k != 0 && k != 1) {
            return false;
        }
        kept[k] = h.copy();
        return true;
    }

    boolean restore(int k) {
        if (k != 0 && k != 1 || kept[k] == null) {
            return false;
        }
        h = kept[k].copy();
        return true;
    }

    int count(int what) {
        int mends = 0;
        for (Pack p : h.packs) {
            mends += p.mends.size();
        }
        int[] all = {h.benches.size(), h.boxes.size(), h.cells.size(), h.readings.size(), h.rests.size(),
            h.packs.size(), mends, strips.size(), tape.length()};
        return what >= 0 && what < all.length ? all[what] : NONE;
    }
}
