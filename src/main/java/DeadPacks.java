import java.util.NoSuchElementException;

/** Cells from dead packs: measured, judged, put into even packs, mended, welded. DOC.md says what each call does. */
public final class DeadPacks {
    public static final int NONE = -1;

    private static final int BENCHES = 6;
    private static final int BOXES = 8;
    private static final int CELLS = 60;
    private static final int READINGS = 200;
    private static final int RESTS = 200;
    private static final int PACKS = 10;
    private static final int PACK_CELLS = 40;
    private static final int MENDS = 30;
    private static final int LAST_DAY = 999;
    private static final int MILLION = 1000000;

    /** Every word that a text may tell, in the order of the numbers below; none of them can be a NAME. */
    private static final String WORDS =
            "bench box fade floor bleed fuse noise leak jump warm or and not in lies used hold pass spread cell strip after near ";
    private static final int BENCH = 0;
    private static final int BOX = 1;
    private static final int FADE = 2;
    private static final int WARM = 9;
    private static final int OR = 10;
    private static final int AND = 11;
    private static final int NOT = 12;
    private static final int IN = 13;
    private static final int LIES = 14;
    private static final int USED = 15;
    private static final int HOLD = 16;
    private static final int CELL = 19;
    private static final int STRIP = 20;
    private static final int AFTER = 21;
    private static final int NEAR = 22;

    private static final int FADE_A = 0;
    private static final int FADE_B = 1;
    private static final int LAW_FLOOR = 2;
    private static final int LAW_BLEED = 3;
    private static final int LAW_FUSE = 4;
    private static final int LAW_NOISE = 5;
    private static final int LAW_LEAK = 6;
    private static final int LAW_JUMP = 7;
    private static final int LAW_WARM = 8;
    private static final int LAWS = 9;
    private static final int[] LAW_LEAST = {0, 0, 1, 1, 1, 0, 0, 0, 0};
    private static final int[] LAW_MOST = {99, 99, 999, 99, 999, 99, 99, 99, 99};
    private static final int[] LAW_USUAL = {2, 1, 100, 5, 100, 2, 3, 20, 40};

    private final Tape tape = new Tape();
    private final Stock stock = new Stock();
    private final Stock[] kept = new Stock[2];
    private final House draftHouse = new House();
    private final Rule draftRule = new Rule();
    private final Truth truth = new Truth();
    private final int[] picked = new int[CELLS];
    private final Rows even = new Rows();
    private final Swaps swapped = new Swaps();
    private final Share shared = new Share();
    private int bestOut = NONE;
    private int bestIn = NONE;
    private int lostLast = NONE;
    private Welds strips = new Welds();
    private Welds draftStrips = new Welds();
    private final Welding welding = new Welding();

    public DeadPacks() {
    }

    public int feed(int a, int b, int c, int d, int e) {
        if (tape.size + 20 > Tape.ROOM) {
            return NONE;
        }
        tape.add(a);
        tape.add(b);
        tape.add(c);
        tape.add(d);
        tape.add(e);
        return tape.size;
    }

    public boolean end(int n) {
        if (n < 0 || n > tape.size) {
            return false;
        }
        tape.size = n;
        return true;
    }

    public int house() {
        boolean good = draftHouse.readFrom(tape);
        tape.size = 0;
        if (!good) {
            return -1 - tape.faultPlace;
        }
        stock.renew(draftHouse);
        truth.stale = true;
        return draftHouse.lines;
    }

    public int fault() {
        return tape.fault;
    }

    public int cell(int box) {
        if (!stock.house.hasBox(box)) {
            return NONE;
        }
        return stock.addCell(box);
    }

    public int read(int cell, int bench, int hold, int pass) {
        if (!stock.hasCell(cell) || !stock.house.hasBench(bench)) {
            return NONE;
        }
        if (!within(hold, 1, 400) || !within(pass, 1, 999) || stock.readings >= READINGS) {
            return NONE;
        }
        truth.stale = true;
        return stock.addReading(cell, bench, hold, pass);
    }

    public int rest(int cell, int day, int millivolts, int warm) {
        if (!stock.hasCell(cell) || stock.rests >= RESTS) {
            return NONE;
        }
        if (!within(day, 0, 99) || !within(millivolts, 0, 4200) || !within(warm, 0, 99)) {
            return NONE;
        }
        if (stock.restsOf[cell] > 0 && day <= stock.lastDay[cell]) {
            return NONE;
        }
        return stock.addRest(cell, day, millivolts, warm);
    }

    public int lean(int bench, int what) throws NoSuchElementException {
        if (!stock.house.hasBench(bench) || !within(what, 0, 2)) {
            throw new NoSuchElementException();
        }
        truth.refresh(stock);
        if (what == 2) {
            return truth.joined[bench] ? 1 : 0;
        }
        return what == 0 ? truth.leanHold[bench] : truth.leanPass[bench];
    }

    public int about(int c, int what) throws NoSuchElementException {
        if (!stock.hasCell(c) || !within(what, 0, 5)) {
            throw new NoSuchElementException();
        }
        if (what == 0) {
            return stock.boxOf[c];
        }
        if (what == 5) {
            return stock.packs.packOf[c];
        }
        truth.refresh(stock);
        return what == 4 ? truth.flowOf(c) : truth.toldOf(c, what);
    }

    public int again() {
        truth.refresh(stock);
        return truth.mostSpread(stock.cells);
    }

    public int fall(int c, int what) throws NoSuchElementException {
        if (!stock.hasCell(c) || !within(what, 0, 1) || stock.restsOf[c] < 2) {
            throw new NoSuchElementException();
        }
        int above = stock.fallenBy(c);
        int below = stock.daysBetween(c);
        return cut(what == 0 ? above : below, greatestDivisor(above, below));
    }

    public int lies(int c) {
        return stock.hasCell(c) ? stock.liesOf(c) : NONE;
    }

    public int days(int r) {
        if (!within(r, 1, 99)) {
            return NONE;
        }
        return cut(2 * stock.house.laws[LAW_NOISE], r) + 1;
    }

    public int rule() {
        boolean good = draftRule.readFrom(tape, stock.house);
        tape.size = 0;
        if (!good) {
            return -1 - tape.faultPlace;
        }
        stock.rule.copyFrom(draftRule);
        return draftRule.ones;
    }

    public int meets(int k) {
        if (stock.rule.ones == 0 || k < NONE) {
            return NONE;
        }
        truth.refresh(stock);
        int met = 0;
        for (int c = 0; c < stock.cells; c++) {
            if (stock.rule.fits(stock, truth, c)) {
                if (met == k) {
                    return c;
                }
                met++;
            }
        }
        return k == NONE ? met : NONE;
    }

    public int rows(int s) {
        int many = pickCells(2, Rows.MOST, false);
        if (!divides(s, many)) {
            return NONE;
        }
        even.start(many, s);
        for (int i = 0; i < many; i++) {
            even.tell(i, truth.hold[picked[i]], truth.flowOf(picked[i]));
        }
        even.find();
        return even.weak;
    }

    public int rowAt(int i) {
        return within(i, 0, even.many - 1) ? even.best[i] : NONE;
    }

    public int rowsBy(int what) {
        if (even.many == 0 || !within(what, 0, 1)) {
            return NONE;
        }
        return what == 0 ? even.uneven : even.unlike;
    }

    public int swaps(int s) {
        int many = pickCells(2, Swaps.MOST, false);
        if (!divides(s, many)) {
            return NONE;
        }
        swapped.start(many, s);
        for (int i = 0; i < many; i++) {
            swapped.hold[i] = truth.hold[picked[i]];
        }
        swapped.find();
        return swapped.weak;
    }

    public int swapAt(int i) {
        return within(i, 0, swapped.many - 1) ? swapped.rowOf[i] : NONE;
    }

    public int swapsBy(int what) {
        if (swapped.many == 0 || !within(what, 0, 2)) {
            return NONE;
        }
        if (what == 0) {
            return swapped.limit;
        }
        return what == 1 ? swapped.times : swapped.greatest - swapped.weak;
    }

    public int most(int s, int p, int h) {
        int many = pickCells(1, CELLS, false);
        if (many == NONE || !within(s, 1, 20) || !within(p, 1, 2) || !within(h, 1, 800)) {
            return NONE;
        }
        return cut(p == 1 ? strongCells(many, h) : strongPairs(many, h), s);
    }

    public int share(int k) {
        int many = tape.size;
        tape.size = 0;
        if (!within(many, 1, Share.MOST) || !within(k, 1, Share.BENCHES_MOST)) {
            return NONE;
        }
        for (int i = 0; i < many; i++) {
            if (!within(tape.at(i), 1, 99)) {
                return NONE;
            }
        }
        shared.start(many, k);
        for (int i = 0; i < many; i++) {
            shared.hours[i] = tape.at(i);
        }
        shared.find();
        return shared.least;
    }

    public int shareAt(int i) {
        return within(i, 0, shared.many - 1) ? shared.best[i] : NONE;
    }

    public int pack(int s, int day) {
        int many = pickCells(2, PACK_CELLS, true);
        if (!divides(s, many) || !within(day, 0, LAST_DAY) || stock.packs.many >= PACKS) {
            return NONE;
        }
        return stock.packs.make(picked, many, s, day);
    }

    public int row(int p, int row, int what) throws NoSuchElementException {
        if (!stock.packs.has(p) || !within(row, 0, stock.packs.rows[p] - 1) || !within(what, 0, 2)) {
            throw new NoSuchElementException();
        }
        truth.refresh(stock);
        if (what == 2) {
            return stock.packs.cyclesOf(p, row, truth, stock.house);
        }
        return what == 0 ? stock.packs.holdOf(p, row, truth) : stock.packs.flowOf(p, row, truth);
    }

    public int inPack(int p, int i) {
        if (!stock.packs.has(p) || !within(i, 0, stock.packs.size[p] - 1)) {
            return NONE;
        }
        return stock.packs.cellAt(p, i);
    }

    public int life(int p) {
        if (!stock.packs.has(p)) {
            return NONE;
        }
        truth.refresh(stock);
        return stock.packs.cyclesOf(p, stock.packs.endingRow(p, truth, stock.house), truth, stock.house);
    }

    public int ends(int p) {
        if (!stock.packs.has(p)) {
            return NONE;
        }
        truth.refresh(stock);
        return stock.packs.endingRow(p, truth, stock.house);
    }

    public boolean mend(int p, int out, int in, int day) {
        Packs packs = stock.packs;
        if (!packs.has(p) || !within(day, packs.last[p], LAST_DAY) || packs.mends >= MENDS) {
            return false;
        }
        if (!stock.hasCell(out) || packs.packOf[out] != p) {
            return false;
        }
        if (!stock.hasCell(in) || packs.packOf[in] != NONE) {
            return false;
        }
        truth.refresh(stock);
        return truth.has(in) && packs.exchange(p, out, in, day);
    }

    public int bestMend(int p) {
        int many = pickCells(1, 10, true);
        if (many == NONE || !stock.packs.has(p)) {
            return NONE;
        }
        int pair = stock.packs.bestPair(p, picked, many, truth, stock.house);
        bestOut = pair >> 8;
        bestIn = pair & 255;
        return stock.packs.bestLife;
    }

    public int bestBy(int what) {
        if (what == 0) {
            return bestOut;
        }
        return what == 1 ? bestIn : NONE;
    }

    public int balance(int p) {
        int many = tape.size;
        tape.size = 0;
        if (!stock.packs.has(p) || many != stock.packs.rows[p]) {
            return NONE;
        }
        for (int r = 0; r < many; r++) {
            if (!within(tape.at(r), 0, 100)) {
                return NONE;
            }
        }
        truth.refresh(stock);
        return bleed(p, many);
    }

    public int lost() {
        return lostLast;
    }

    public int shorted(int c) {
        if (!stock.hasCell(c) || stock.packs.packOf[c] == NONE) {
            return NONE;
        }
        truth.refresh(stock);
        return stock.packs.shortOf(c, truth, stock.house.laws[LAW_FUSE]);
    }

    public int held(int box, int day) {
        if (!stock.house.hasBox(box) || !within(day, NONE, LAST_DAY)) {
            return NONE;
        }
        int bits = 0;
        for (int p = 0; p < stock.packs.many; p++) {
            boolean had = day == NONE ? stock.packs.everHad(p, box, stock.boxOf)
                    : stock.packs.hadOn(p, box, day, stock.boxOf);
            bits |= had ? 1 << p : 0;
        }
        return bits;
    }

    public int welds() {
        boolean good = draftStrips.readFrom(tape);
        tape.size = 0;
        if (!good) {
            return -1 - tape.faultPlace;
        }
        Welds old = strips;
        strips = draftStrips;
        draftStrips = old;
        return strips.many;
    }

    public int order() {
        return welding.findOrder(strips) ? strips.many : NONE;
    }

    public int orderAt(int k) {
        return within(k, 0, welding.many - 1) ? welding.told[k] : NONE;
    }

    public int check() {
        int many = tape.size;
        tape.size = 0;
        int good = welding.goodSteps(strips, tape, many);
        return good == many && good == strips.many ? NONE : good;
    }

    public boolean image(int k) {
        if (!within(k, 0, 1)) {
            return false;
        }
        if (kept[k] == null) {
            kept[k] = new Stock();
        }
        kept[k].copyFrom(stock);
        return true;
    }

    public boolean restore(int k) {
        if (!within(k, 0, 1) || kept[k] == null) {
            return false;
        }
        stock.copyFrom(kept[k]);
        truth.stale = true;
        return true;
    }

    public int count(int what) {
        switch (what) {
            case 0:
                return stock.house.benches;
            case 1:
                return stock.house.boxes;
            case 2:
                return stock.cells;
            case 3:
                return stock.readings;
            case 4:
                return stock.rests;
            case 5:
                return stock.packs.many;
            case 6:
                return stock.packs.mends;
            case 7:
                return strips.many;
            case 8:
                return tape.size;
            default:
                return NONE;
        }
    }

    private static boolean within(int n, int least, int most) {
        return n >= least && n <= most;
    }

    private static int cut(int above, int below) {
        return below == 0 ? 0 : above / below;
    }

    private static boolean divides(int s, int many) {
        return s >= 1 && many >= s && many % s == 0;
    }

    private static int greatestDivisor(int a, int b) {
        int x = a < 0 ? -a : a;
        int y = b;
        for (int left = 64; left > 0 && y != 0; left--) {
            int rest = x % y;
            x = y;
            y = rest;
        }
        return x;
    }

    /** Takes the tape's CELLS into picked: how many; NONE, if they are not unlike, TRUE and (free) in no PACK. */
    private int pickCells(int least, int most, boolean free) {
        int many = tape.size;
        tape.size = 0;
        if (!within(many, least, most)) {
            return NONE;
        }
        truth.refresh(stock);
        long seen = 0;
        for (int i = 0; i < many; i++) {
            int c = tape.at(i);
            if (!stock.hasCell(c) || (seen >> c & 1) != 0 || !truth.has(c)) {
                return NONE;
            }
            if (free && stock.packs.packOf[c] != NONE) {
                return NONE;
            }
            seen |= 1L << c;
            picked[i] = c;
        }
        return many;
    }

    private int strongCells(int many, int h) {
        int strong = 0;
        for (int i = 0; i < many; i++) {
            strong += truth.hold[picked[i]] >= h ? 1 : 0;
        }
        return strong;
    }

    /** The most pairs: the strongest takes the weakest that suffices; one too weak even for it is of no use. */
    private int strongPairs(int many, int h) {
        sortPicked(many);
        int pairs = 0;
        int high = many - 1;
        for (int low = 0; low < high; low++) {
            if (truth.hold[picked[low]] + truth.hold[picked[high]] >= h) {
                pairs++;
                high--;
            }
        }
        return pairs;
    }

    private void sortPicked(int many) {
        for (int i = 1; i < many; i++) {
            int c = picked[i];
            int k = i;
            for (; k > 0 && truth.hold[picked[k - 1]] > truth.hold[c]; k--) {
                picked[k] = picked[k - 1];
            }
            picked[k] = c;
        }
    }

    private int filled(int p, int row) {
        return stock.packs.holdOf(p, row, truth) * tape.at(row) / 100;
    }

    private int bleed(int p, int many) {
        int least = filled(p, 0);
        int greatest = least;
        int sum = 0;
        for (int r = 0; r < many; r++) {
            int full = filled(p, r);
            least = Math.min(least, full);
            greatest = Math.max(greatest, full);
            sum += full;
        }
        lostLast = sum - many * least;
        int each = stock.house.laws[LAW_BLEED];
        return cut(greatest - least + each - 1, each);
    }

    /** The tape's bytes, and the latest TOKEN and the FAULT of the text that is read from it. */
    private static final class Tape {
        static final int ROOM = 540;
        static final int END = 0;
        static final int WRONG = 1;
        static final int WORD = 2;
        static final int NUMBER = 3;

        final byte[] bytes = new byte[ROOM];
        int size;
        int limit;
        int next;
        /** END, WRONG, WORD, NUMBER, or the byte of a sign. */
        int sort;
        int place;
        /** A NUMBER's value; for a WORD a number that no other WORD has. */
        int value;
        /** Which of WORDS it is; NONE: none of them. */
        int word = NONE;
        int fault;
        int faultPlace;

        void add(int four) {
            for (int shift = 24; shift >= 0 && size < ROOM; shift -= 8) {
                bytes[size] = (byte) (four >> shift);
                size++;
            }
        }

        /** The byte in a place; bytes stay readable after the tape has been emptied, till others come. */
        int at(int i) {
            return i >= 0 && i < ROOM ? bytes[i] & 255 : NONE;
        }

        void begin(int most) {
            limit = most;
            next = 0;
            fault = 0;
            faultPlace = 0;
            step();
        }

        boolean refuse(int kind) {
            fault = kind;
            faultPlace = place;
            return false;
        }

        boolean isName() {
            return sort == WORD && word == NONE;
        }

        boolean takeSign(int sign) {
            if (sort != sign) {
                return refuse(1);
            }
            step();
            return true;
        }

        /** Whether the TOKEN is a NUMBER from least to most; it stays the latest one. */
        boolean isNumber(int least, int most) {
            if (sort != NUMBER) {
                return refuse(1);
            }
            return value >= least && value <= most || refuse(2);
        }

        void step() {
            while (next < size && (bytes[next] == ' ' || bytes[next] == '\n')) {
                next++;
            }
            word = NONE;
            value = 0;
            if (size > limit && next >= limit) {
                sort = WRONG;
                place = limit;
            } else if (next >= size) {
                sort = END;
                place = size;
            } else {
                place = next;
                stepOver();
                word = sort == WORD ? wordOf(value) : NONE;
            }
        }

        private void stepOver() {
            int first = bytes[next];
            int letters = 0;
            int digits = 0;
            for (; next < size; next++) {
                int c = bytes[next];
                if (c >= '0' && c <= '9') {
                    digits++;
                    value = value * 10 + c - '0';
                } else if (c >= 'a' && c <= 'z') {
                    letters++;
                    value = value * 32 + c - 'a' + 1;
                } else {
                    break;
                }
            }
            if (letters + digits == 0) {
                boolean sign = first == ';' || first == '+' || first == '-' || first == '(' || first == ')'
                        || first >= '<' && first <= '>';
                sort = sign ? first : WRONG;
                next++;
            } else if (digits == 0) {
                sort = letters <= 6 ? WORD : WRONG;
            } else {
                sort = letters == 0 && digits <= 3 ? NUMBER : WRONG;
            }
        }

        private static int wordOf(int value) {
            int number = 0;
            int told = 0;
            for (int i = 0; i < WORDS.length(); i++) {
                char c = WORDS.charAt(i);
                if (c != ' ') {
                    told = told * 32 + c - 'a' + 1;
                } else if (told == value) {
                    return number;
                } else {
                    number++;
                    told = 0;
                }
            }
            return NONE;
        }
    }

    /** BENCHES, BOXES and laws. */
    private static final class House {
        final int[] benchNames = new int[BENCHES];
        final int[] boxNames = new int[BOXES];
        final int[] laws = LAW_USUAL.clone();
        int benches;
        int boxes;
        int lines;
        /** The laws told so far by the text that is read, as bits. */
        private int told;

        boolean hasBench(int b) {
            return b >= 0 && b < benches;
        }

        boolean hasBox(int b) {
            return b >= 0 && b < boxes;
        }

        int boxNamed(int name) {
            for (int b = 0; b < boxes; b++) {
                if (boxNames[b] == name) {
                    return b;
                }
            }
            return NONE;
        }

        private boolean isTold(int name) {
            for (int b = 0; b < benches; b++) {
                if (benchNames[b] == name) {
                    return true;
                }
            }
            return boxNamed(name) != NONE;
        }

        void copyFrom(House h) {
            System.arraycopy(h.benchNames, 0, benchNames, 0, BENCHES);
            System.arraycopy(h.boxNames, 0, boxNames, 0, BOXES);
            System.arraycopy(h.laws, 0, laws, 0, LAWS);
            benches = h.benches;
            boxes = h.boxes;
            lines = h.lines;
        }

        boolean readFrom(Tape t) {
            benches = 0;
            boxes = 0;
            lines = 0;
            told = 0;
            System.arraycopy(LAW_USUAL, 0, laws, 0, LAWS);
            t.begin(500);
            for (int left = Tape.ROOM; left > 0 && t.sort != Tape.END; left--) {
                if (!readLine(t)) {
                    return false;
                }
                lines++;
            }
            return true;
        }

        private boolean readLine(Tape t) {
            int w = t.word;
            if (w < BENCH || w > WARM) {
                return t.refuse(1);
            }
            return (w <= BOX ? readName(t, w) : readLaw(t, w)) && t.takeSign(';');
        }

        private boolean readName(Tape t, int w) {
            if (w == BENCH ? benches >= BENCHES : boxes >= BOXES) {
                return t.refuse(4);
            }
            t.step();
            if (!t.isName()) {
                return t.refuse(1);
            }
            if (isTold(t.value)) {
                return t.refuse(3);
            }
            if (w == BENCH) {
                benchNames[benches] = t.value;
                benches++;
            } else {
                boxNames[boxes] = t.value;
                boxes++;
            }
            t.step();
            return true;
        }

        private boolean readLaw(Tape t, int w) {
            if ((told >> w & 1) != 0) {
                return t.refuse(3);
            }
            told |= 1 << w;
            t.step();
            if (w == FADE) {
                return readValue(t, FADE_A) && readValue(t, FADE_B);
            }
            // 'fade' alone has two laws, so those behind it stand one further than their words.
            return readValue(t, w - FADE + 1);
        }

        private boolean readValue(Tape t, int law) {
            if (law < 0 || law >= LAWS || !t.isNumber(LAW_LEAST[law], LAW_MOST[law])) {
                return false;
            }
            laws[law] = t.value;
            t.step();
            return true;
        }
    }

    /** A RULE, its ONES and joints in the order in which they are reckoned. */
    private static final class Rule {
        static final int ONES = 20;
        static final int DEPTH = 8;

        /** Each step: a word's number, a sign 8 bits up, a number 16 bits up. */
        final int[] steps = new int[2 * ONES];
        int length;
        int ones;

        void copyFrom(Rule r) {
            System.arraycopy(r.steps, 0, steps, 0, steps.length);
            length = r.length;
            ones = r.ones;
        }

        boolean readFrom(Tape t, House h) {
            length = 0;
            ones = 0;
            t.begin(200);
            if (!readCond(t, h, 1)) {
                return false;
            }
            return t.sort == Tape.END || t.refuse(1);
        }

        private boolean readCond(Tape t, House h, int depth) {
            if (!readAll(t, h, depth)) {
                return false;
            }
            for (int left = Tape.ROOM; left > 0 && t.word == OR; left--) {
                t.step();
                if (!readAll(t, h, depth) || !addStep(OR)) {
                    return false;
                }
            }
            return true;
        }

        private boolean readAll(Tape t, House h, int depth) {
            if (!readOne(t, h, depth)) {
                return false;
            }
            for (int left = Tape.ROOM; left > 0 && t.word == AND; left--) {
                t.step();
                if (!readOne(t, h, depth) || !addStep(AND)) {
                    return false;
                }
            }
            return true;
        }

        private boolean readOne(Tape t, House h, int depth) {
            boolean bracket = t.sort == '(';
            int w = t.word;
            if (!bracket && (w < NOT || w > CELL)) {
                return t.refuse(1);
            }
            if (ones >= ONES || depth > DEPTH) {
                return t.refuse(4);
            }
            ones++;
            t.step();
            if (bracket) {
                return readCond(t, h, depth + 1) && t.takeSign(')');
            }
            if (w == NOT) {
                return readOne(t, h, depth + 1) && addStep(NOT);
            }
            if (w == IN) {
                return readBox(t, h);
            }
            return w <= USED ? addStep(w) : readSize(t, w);
        }

        private boolean readBox(Tape t, House h) {
            if (!t.isName()) {
                return t.refuse(1);
            }
            int b = h.boxNamed(t.value);
            if (b == NONE) {
                return t.refuse(3);
            }
            t.step();
            return addStep(IN | b << 16);
        }

        private boolean readSize(Tape t, int w) {
            int sign = t.sort;
            if (sign < '<' || sign > '>') {
                return t.refuse(1);
            }
            t.step();
            if (t.sort != Tape.NUMBER) {
                return t.refuse(1);
            }
            int number = t.value;
            t.step();
            return addStep(w | sign << 8 | number << 16);
        }

        private boolean addStep(int step) {
            if (length >= steps.length) {
                return false;
            }
            steps[length] = step;
            length++;
            return true;
        }

        /** Whether CELL c MEETS it; what has been reckoned and not yet been joined stands in bits, the latest lowest. */
        boolean fits(Stock k, Truth t, int c) {
            int bits = 0;
            for (int i = 0; i < length; i++) {
                int w = steps[i] & 255;
                if (w == NOT) {
                    bits ^= 1;
                } else if (w == AND) {
                    bits = bits >> 1 & (bits | ~1);
                } else if (w == OR) {
                    bits = bits >> 1 | bits & 1;
                } else {
                    bits = bits << 1 | (holds(steps[i], k, t, c) ? 1 : 0);
                }
            }
            return (bits & 1) != 0;
        }

        private static boolean holds(int step, Stock k, Truth t, int c) {
            int number = step >> 16;
            switch (step & 255) {
                case IN:
                    return k.boxOf[c] == number;
                case LIES:
                    return k.liesOf(c) != 0;
                case USED:
                    return k.packs.packOf[c] != NONE;
                case CELL:
                    return compares(c, step >> 8 & 255, number);
                default:
                    return t.has(c) && compares(t.toldOf(c, (step & 255) - HOLD + 1), step >> 8 & 255, number);
            }
        }

        private static boolean compares(int a, int sign, int b) {
            if (sign == '=') {
                return a == b;
            }
            return sign == '<' ? a < b : a > b;
        }
    }

    /** All that an image keeps. */
    private static final class Stock {
        final House house = new House();
        final Rule rule = new Rule();
        final Packs packs = new Packs();
        int cells;
        final int[] boxOf = new int[CELLS];
        int readings;
        final int[] readCell = new int[READINGS];
        final int[] readBench = new int[READINGS];
        final int[] readHold = new int[READINGS];
        final int[] readPass = new int[READINGS];
        int rests;
        final int[] restsOf = new int[CELLS];
        final int[] firstDay = new int[CELLS];
        final int[] firstMillivolts = new int[CELLS];
        final int[] lastDay = new int[CELLS];
        final int[] lastMillivolts = new int[CELLS];
        /** Bits 1 and 2 of LIES, by the RESTS so far: laws change only when there are no RESTS any more. */
        final int[] signs = new int[CELLS];

        void renew(House h) {
            house.copyFrom(h);
            rule.length = 0;
            rule.ones = 0;
            packs.clear();
            cells = 0;
            readings = 0;
            rests = 0;
        }

        void copyFrom(Stock k) {
            house.copyFrom(k.house);
            rule.copyFrom(k.rule);
            packs.copyFrom(k.packs);
            cells = k.cells;
            System.arraycopy(k.boxOf, 0, boxOf, 0, CELLS);
            readings = k.readings;
            System.arraycopy(k.readCell, 0, readCell, 0, READINGS);
            System.arraycopy(k.readBench, 0, readBench, 0, READINGS);
            System.arraycopy(k.readHold, 0, readHold, 0, READINGS);
            System.arraycopy(k.readPass, 0, readPass, 0, READINGS);
            rests = k.rests;
            System.arraycopy(k.restsOf, 0, restsOf, 0, CELLS);
            System.arraycopy(k.firstDay, 0, firstDay, 0, CELLS);
            System.arraycopy(k.firstMillivolts, 0, firstMillivolts, 0, CELLS);
            System.arraycopy(k.lastDay, 0, lastDay, 0, CELLS);
            System.arraycopy(k.lastMillivolts, 0, lastMillivolts, 0, CELLS);
            System.arraycopy(k.signs, 0, signs, 0, CELLS);
        }

        boolean hasCell(int c) {
            return c >= 0 && c < cells;
        }

        int addCell(int box) {
            if (cells >= CELLS) {
                return NONE;
            }
            boxOf[cells] = box;
            restsOf[cells] = 0;
            signs[cells] = 0;
            packs.packOf[cells] = NONE;
            cells++;
            return cells - 1;
        }

        int addReading(int c, int bench, int hold, int pass) {
            readCell[readings] = c;
            readBench[readings] = bench;
            readHold[readings] = hold;
            readPass[readings] = pass;
            readings++;
            return readings - 1;
        }

        int addRest(int c, int day, int millivolts, int warm) {
            if (restsOf[c] == 0) {
                firstDay[c] = day;
                firstMillivolts[c] = millivolts;
            } else if (lastMillivolts[c] - millivolts > house.laws[LAW_JUMP] * (day - lastDay[c])) {
                signs[c] |= 2;
            }
            if (warm >= house.laws[LAW_WARM]) {
                signs[c] |= 4;
            }
            lastDay[c] = day;
            lastMillivolts[c] = millivolts;
            restsOf[c]++;
            rests++;
            return rests - 1;
        }

        int fallenBy(int c) {
            return firstMillivolts[c] - lastMillivolts[c];
        }

        int daysBetween(int c) {
            return lastDay[c] - firstDay[c];
        }

        int liesOf(int c) {
            boolean leaks = restsOf[c] > 1 && fallenBy(c) > house.laws[LAW_LEAK] * daysBetween(c);
            return signs[c] | (leaks ? 1 : 0);
        }
    }

    /** LEANS and TRUE values, reckoned anew once a READING has come or others have taken their place. */
    private static final class Truth {
        boolean stale = true;
        final boolean[] joined = new boolean[BENCHES];
        final int[] leanHold = new int[BENCHES];
        final int[] leanPass = new int[BENCHES];
        /** TRUE HOLD and TRUE PASS of each CELL; 0 without. */
        final int[] hold = new int[CELLS];
        final int[] pass = new int[CELLS];
        /** How many READINGS on JOINED BENCHES each CELL has. */
        final int[] counted = new int[CELLS];
        final int[] leastHold = new int[CELLS];
        final int[] greatestHold = new int[CELLS];
        /** By CELL and BENCH the number of the first READING. */
        private final int[] first = new int[CELLS * BENCHES];
        private final int[] apart = new int[CELLS];

        boolean has(int c) {
            return counted[c] > 0;
        }

        /** FLOW; 0 without, when the TRUE PASS is 0. */
        int flowOf(int c) {
            return cut(MILLION, pass[c]);
        }

        /** TRUE HOLD (what 1), TRUE PASS (2), SPREAD (3); NONE without. */
        int toldOf(int c, int what) {
            if (!has(c)) {
                return NONE;
            }
            if (what == 3) {
                return greatestHold[c] - leastHold[c];
            }
            return what == 1 ? hold[c] : pass[c];
        }

        int mostSpread(int cells) {
            int best = NONE;
            int most = NONE;
            for (int c = 0; c < cells; c++) {
                if (counted[c] > 1 && toldOf(c, 3) > most) {
                    most = toldOf(c, 3);
                    best = c;
                }
            }
            return best;
        }

        void refresh(Stock k) {
            if (!stale) {
                return;
            }
            stale = false;
            for (int b = 0; b < BENCHES; b++) {
                joined[b] = b == 0 && k.house.benches > 0;
                leanHold[b] = 0;
                leanPass[b] = 0;
            }
            findFirst(k);
            weigh(k);
            for (int left = k.house.benches - 1; left > 0; left--) {
                int b = nextBench(k);
                if (b == NONE) {
                    return;
                }
                leanHold[b] = middle(b, k.readHold, hold, k.cells);
                leanPass[b] = middle(b, k.readPass, pass, k.cells);
                joined[b] = true;
                weigh(k);
            }
        }

        private void findFirst(Stock k) {
            for (int i = 0; i < k.cells * BENCHES; i++) {
                first[i] = NONE;
            }
            for (int r = k.readings - 1; r >= 0; r--) {
                first[k.readCell[r] * BENCHES + k.readBench[r]] = r;
            }
        }

        private boolean shares(int c, int b) {
            return has(c) && first[c * BENCHES + b] != NONE;
        }

        private int nextBench(Stock k) {
            int best = NONE;
            int most = 0;
            for (int b = 1; b < k.house.benches; b++) {
                int many = 0;
                for (int c = 0; c < k.cells && !joined[b]; c++) {
                    many += shares(c, b) ? 1 : 0;
                }
                if (many > most) {
                    most = many;
                    best = b;
                }
            }
            return best;
        }

        /** The lower middle one of how far the first READINGS on a BENCH are from the TRUE values. */
        private int middle(int b, int[] readings, int[] known, int cells) {
            int many = 0;
            for (int c = 0; c < cells; c++) {
                if (shares(c, b)) {
                    int by = readings[first[c * BENCHES + b]] - known[c];
                    int i = many;
                    for (; i > 0 && apart[i - 1] > by; i--) {
                        apart[i] = apart[i - 1];
                    }
                    apart[i] = by;
                    many++;
                }
            }
            return many == 0 ? 0 : apart[(many - 1) / 2];
        }

        private void weigh(Stock k) {
            for (int c = 0; c < CELLS; c++) {
                hold[c] = 0;
                pass[c] = 0;
                counted[c] = 0;
            }
            for (int r = 0; r < k.readings; r++) {
                if (joined[k.readBench[r]]) {
                    addTo(k.readCell[r], k.readHold[r] - leanHold[k.readBench[r]]);
                    pass[k.readCell[r]] += k.readPass[r] - leanPass[k.readBench[r]];
                }
            }
            for (int c = 0; c < k.cells; c++) {
                if (has(c)) {
                    hold[c] = Math.max(1, cut(hold[c], counted[c]));
                    pass[c] = Math.max(1, cut(pass[c], counted[c]));
                }
            }
        }

        private void addTo(int c, int by) {
            leastHold[c] = has(c) ? Math.min(leastHold[c], by) : by;
            greatestHold[c] = has(c) ? Math.max(greatestHold[c], by) : by;
            hold[c] += by;
            counted[c]++;
        }
    }

    /** PACKS, what was MENDED on them, and how they wear. */
    private static final class Packs {
        static final int MOST_CYCLES = 100000;

        int many;
        final int[] packOf = new int[CELLS];
        final int[] cells = new int[PACKS * PACK_CELLS];
        final int[] size = new int[PACKS];
        final int[] rows = new int[PACKS];
        final int[] made = new int[PACKS];
        /** The DAY on which something was done to it last. */
        final int[] last = new int[PACKS];
        int mends;
        final int[] mendPack = new int[MENDS];
        final int[] mendPlace = new int[MENDS];
        final int[] mendOut = new int[MENDS];
        final int[] mendDay = new int[MENDS];
        int bestLife;
        private final int[] cycles = new int[PACK_CELLS];

        void clear() {
            many = 0;
            mends = 0;
        }

        void copyFrom(Packs p) {
            many = p.many;
            System.arraycopy(p.packOf, 0, packOf, 0, CELLS);
            System.arraycopy(p.cells, 0, cells, 0, PACKS * PACK_CELLS);
            System.arraycopy(p.size, 0, size, 0, PACKS);
            System.arraycopy(p.rows, 0, rows, 0, PACKS);
            System.arraycopy(p.made, 0, made, 0, PACKS);
            System.arraycopy(p.last, 0, last, 0, PACKS);
            mends = p.mends;
            System.arraycopy(p.mendPack, 0, mendPack, 0, MENDS);
            System.arraycopy(p.mendPlace, 0, mendPlace, 0, MENDS);
            System.arraycopy(p.mendOut, 0, mendOut, 0, MENDS);
            System.arraycopy(p.mendDay, 0, mendDay, 0, MENDS);
        }

        boolean has(int p) {
            return p >= 0 && p < many;
        }

        int make(int[] from, int cellsMany, int s, int day) {
            int p = many;
            for (int i = 0; i < cellsMany; i++) {
                cells[p * PACK_CELLS + i] = from[i];
                packOf[from[i]] = p;
            }
            size[p] = cellsMany;
            rows[p] = s;
            made[p] = day;
            last[p] = day;
            many++;
            return p;
        }

        boolean exchange(int p, int out, int in, int day) {
            int i = placeOf(p, out);
            if (i == NONE || mends >= MENDS) {
                return false;
            }
            mendPack[mends] = p;
            mendPlace[mends] = i;
            mendOut[mends] = out;
            mendDay[mends] = day;
            mends++;
            cells[p * PACK_CELLS + i] = in;
            packOf[out] = NONE;
            packOf[in] = p;
            last[p] = day;
            return true;
        }

        int cellAt(int p, int i) {
            return cells[p * PACK_CELLS + i];
        }

        private int placeOf(int p, int c) {
            for (int i = 0; i < size[p]; i++) {
                if (cellAt(p, i) == c) {
                    return i;
                }
            }
            return NONE;
        }

        private int rowSize(int p) {
            return cut(size[p], rows[p]);
        }

        int holdOf(int p, int row, Truth t) {
            int each = rowSize(p);
            int sum = 0;
            for (int i = 0; i < each; i++) {
                sum += t.hold[cellAt(p, row * each + i)];
            }
            return sum;
        }

        int flowOf(int p, int row, Truth t) {
            int each = rowSize(p);
            int sum = 0;
            for (int i = 0; i < each; i++) {
                sum += t.flowOf(cellAt(p, row * each + i));
            }
            return sum;
        }

        int cyclesOf(int p, int row, Truth t, House h) {
            return cyclesBy(holdOf(p, row, t), flowOf(p, row, t), h);
        }

        private static int cyclesBy(int hold, int flow, House h) {
            long fade = 10L * h.laws[FADE_A] + (long) h.laws[FADE_B] * cut(MILLION, flow) / 10;
            long above = (long) (hold - h.laws[LAW_FLOOR]) * MILLION;
            if (above < 0) {
                return 0;
            }
            long each = hold * fade;
            if (each <= 0) {
                return MOST_CYCLES;
            }
            long n = above / each + 1;
            return n < MOST_CYCLES ? (int) n : MOST_CYCLES;
        }

        int endingRow(int p, Truth t, House h) {
            int first = 0;
            int least = MOST_CYCLES + 1;
            for (int r = 0; r < rows[p]; r++) {
                int n = cyclesOf(p, r, t, h);
                if (n < least) {
                    least = n;
                    first = r;
                }
            }
            return first;
        }

        /** BEST MEND: the CELL that goes out, 8 bits up, and the spare one; bestLife is the LIFE then. */
        int bestPair(int p, int[] spare, int spares, Truth t, House h) {
            for (int r = 0; r < rows[p]; r++) {
                cycles[r] = cyclesOf(p, r, t, h);
            }
            bestLife = NONE;
            int pair = 0;
            for (int i = 0; i < size[p]; i++) {
                int row = cut(i, rowSize(p));
                int rest = leastBut(row, rows[p]);
                int out = cellAt(p, i);
                int hold = holdOf(p, row, t) - t.hold[out];
                int flow = flowOf(p, row, t) - t.flowOf(out);
                for (int k = 0; k < spares; k++) {
                    int n = cyclesBy(hold + t.hold[spare[k]], flow + t.flowOf(spare[k]), h);
                    if (Math.min(n, rest) > bestLife) {
                        bestLife = Math.min(n, rest);
                        pair = out << 8 | spare[k];
                    }
                }
            }
            return pair;
        }

        private int leastBut(int row, int s) {
            int least = MOST_CYCLES;
            for (int r = 0; r < s; r++) {
                if (r != row) {
                    least = Math.min(least, cycles[r]);
                }
            }
            return least;
        }

        int shortOf(int c, Truth t, int fuse) {
            int p = packOf[c];
            int place = placeOf(p, c);
            if (place == NONE) {
                return NONE;
            }
            int each = rowSize(p);
            int start = cut(place, each) * each;
            int gone = 0;
            int sum = 0;
            for (int i = start; i < start + each; i++) {
                int other = cellAt(p, i);
                if (other != c) {
                    int given = cut(37000, t.pass[c] + t.pass[other]);
                    gone += given > fuse ? 1 : 0;
                    sum += given;
                }
            }
            return 10 * gone + (sum > fuse ? 1 : 0);
        }

        boolean everHad(int p, int box, int[] boxOf) {
            for (int m = 0; m < mends; m++) {
                if (mendPack[m] == p && boxOf[mendOut[m]] == box) {
                    return true;
                }
            }
            return hadOn(p, box, LAST_DAY, boxOf);
        }

        boolean hadOn(int p, int box, int day, int[] boxOf) {
            if (made[p] > day) {
                return false;
            }
            for (int i = 0; i < size[p]; i++) {
                if (boxOf[cellOn(p, i, day)] == box) {
                    return true;
                }
            }
            return false;
        }

        /** What stood in a place at the end of a DAY: what the first later mending took out, else what is there now. */
        private int cellOn(int p, int i, int day) {
            for (int m = 0; m < mends; m++) {
                if (mendPack[m] == p && mendPlace[m] == i && mendDay[m] > day) {
                    return mendOut[m];
                }
            }
            return cellAt(p, i);
        }
    }

    /** ROWS: all ways are tried in order, but for those that can't become better than the best so far. */
    private static final class Rows {
        static final int MOST = 12;
        private static final int WIDTH = MOST + 1;

        int many;
        final int[] best = new int[MOST];
        int weak;
        int uneven;
        int unlike;
        private int s;
        private int each;
        private final int[] hold = new int[MOST];
        private final int[] flow = new int[MOST];
        private final int[] row = new int[MOST];
        private final int[] rowHold = new int[MOST];
        private final int[] rowFlow = new int[MOST];
        private final int[] rowSize = new int[MOST];
        /** Of the CELLS from the i-th on the HOLDS of the k least, and the k greatest, added: at i WIDTH + k. */
        private final int[] leastHolds = new int[WIDTH * WIDTH];
        private final int[] greatestHolds = new int[WIDTH * WIDTH];
        /** Likewise their FLOWS. */
        private final int[] leastFlows = new int[WIDTH * WIDTH];
        private final int[] greatestFlows = new int[WIDTH * WIDTH];
        private final int[] rising = new int[MOST];

        void start(int cells, int rowsMany) {
            many = cells;
            s = rowsMany;
            each = cut(cells, rowsMany);
            // No way has so little WEAK, so the first that is tried is better, whatever stands here besides.
            weak = NONE;
            uneven = 0;
            unlike = 0;
            for (int r = 0; r < s; r++) {
                rowHold[r] = 0;
                rowFlow[r] = 0;
                rowSize[r] = 0;
            }
        }

        void tell(int i, int cellHold, int cellFlow) {
            hold[i] = cellHold;
            flow[i] = cellFlow;
        }

        void find() {
            addUp(hold, leastHolds, greatestHolds);
            addUp(flow, leastFlows, greatestFlows);
            place(0, 0);
        }

        private void addUp(int[] values, int[] least, int[] greatest) {
            for (int i = many - 1; i >= 0; i--) {
                int size = many - i;
                int k = size - 1;
                for (; k > 0 && rising[k - 1] > values[i]; k--) {
                    rising[k] = rising[k - 1];
                }
                rising[k] = values[i];
                int at = i * WIDTH;
                for (int n = 1; n <= size; n++) {
                    least[at + n] = least[at + n - 1] + rising[n - 1];
                    greatest[at + n] = greatest[at + n - 1] + rising[size - n];
                }
            }
        }

        private void place(int i, int used) {
            if (i >= many) {
                take();
                return;
            }
            for (int r = 0; r <= used && r < s; r++) {
                if (rowSize[r] < each) {
                    put(i, r, 1);
                    if (hopeful((i + 1) * WIDTH)) {
                        place(i + 1, r == used ? used + 1 : used);
                    }
                    put(i, r, -1);
                }
            }
        }

        private void put(int i, int r, int sign) {
            row[i] = r;
            rowHold[r] += sign * hold[i];
            rowFlow[r] += sign * flow[i];
            rowSize[r] += sign;
        }

        /** Whether what is placed so far may become better than the best; at: where the sums of the rest begin. */
        private boolean hopeful(int at) {
            int total = greatestHolds[many];
            int mostWeak = cut(total, s);
            int leastTop = cut(total + s - 1, s);
            for (int r = 0; r < s; r++) {
                int open = each - rowSize[r];
                mostWeak = Math.min(mostWeak, rowHold[r] + greatestHolds[at + open]);
                leastTop = Math.max(leastTop, rowHold[r] + leastHolds[at + open]);
            }
            // With such a top the other ROWS have too little left for them all to be as strong as the best's weakest.
            if (mostWeak < weak || leastTop > total - (s - 1) * weak) {
                return false;
            }
            if (mostWeak > weak || leastTop - mostWeak < uneven) {
                return true;
            }
            return leastTop - mostWeak == uneven && leastUnlike(at) < unlike;
        }

        /** The greatest FLOW is no less than the middle of all, the least one no more. */
        private int leastUnlike(int at) {
            int total = greatestFlows[many];
            int bottom = cut(total, s);
            int top = cut(total + s - 1, s);
            for (int r = 0; r < s; r++) {
                int open = each - rowSize[r];
                bottom = Math.min(bottom, rowFlow[r] + greatestFlows[at + open]);
                top = Math.max(top, rowFlow[r] + leastFlows[at + open]);
            }
            return top - bottom;
        }

        /** With nothing left to place hopeful() is exact: what comes as far as here is better than the best. */
        private void take() {
            int greatest = rowHold[0];
            int leastFlow = rowFlow[0];
            int greatestFlow = rowFlow[0];
            weak = rowHold[0];
            for (int r = 1; r < s; r++) {
                weak = Math.min(weak, rowHold[r]);
                greatest = Math.max(greatest, rowHold[r]);
                leastFlow = Math.min(leastFlow, rowFlow[r]);
                greatestFlow = Math.max(greatestFlow, rowFlow[r]);
            }
            uneven = greatest - weak;
            unlike = greatestFlow - leastFlow;
            System.arraycopy(row, 0, best, 0, many);
        }
    }

    /** SWAPS. */
    private static final class Swaps {
        static final int MOST = 40;
        static final int TIMES = 500;

        int many;
        final int[] hold = new int[MOST];
        final int[] rowOf = new int[MOST];
        int weak;
        int greatest;
        int limit;
        int times;
        private int s;
        private final int[] rowHold = new int[MOST];
        private final int[] falling = new int[MOST];

        void start(int cells, int rowsMany) {
            many = cells;
            s = rowsMany;
            times = 0;
        }

        void find() {
            deal();
            measure();
            for (int left = TIMES; left > 0 && exchangeFirst(); left--) {
                times++;
                measure();
            }
        }

        private void deal() {
            int total = 0;
            for (int i = 0; i < many; i++) {
                total += hold[i];
                int k = i;
                for (; k > 0 && hold[falling[k - 1]] < hold[i]; k--) {
                    falling[k] = falling[k - 1];
                }
                falling[k] = i;
            }
            limit = cut(total, s);
            for (int r = 0; r < s; r++) {
                rowHold[r] = 0;
            }
            for (int k = 0; k < many; k++) {
                int round = cut(k, s);
                int along = k - round * s;
                int r = round % 2 == 0 ? along : s - 1 - along;
                rowOf[falling[k]] = r;
                rowHold[r] += hold[falling[k]];
            }
        }

        private void measure() {
            weak = rowHold[0];
            greatest = rowHold[0];
            for (int r = 1; r < s; r++) {
                weak = Math.min(weak, rowHold[r]);
                greatest = Math.max(greatest, rowHold[r]);
            }
        }

        private boolean exchangeFirst() {
            for (int i = 0; i < many; i++) {
                for (int j = i + 1; j < many; j++) {
                    if (helps(rowOf[i], rowOf[j], hold[j] - hold[i])) {
                        exchange(i, j);
                        return true;
                    }
                }
            }
            return false;
        }

        /** Whether it helps that ROW a becomes greater by that much, and ROW b less. */
        private boolean helps(int a, int b, int by) {
            if (a == b || by == 0) {
                return false;
            }
            int newA = rowHold[a] + by;
            int newB = rowHold[b] - by;
            if (newA < weak || newB < weak) {
                return false;
            }
            int least = Math.min(newA, newB);
            int most = Math.max(newA, newB);
            for (int r = 0; r < s; r++) {
                if (r != a && r != b) {
                    least = Math.min(least, rowHold[r]);
                    most = Math.max(most, rowHold[r]);
                }
            }
            return least > weak || least == weak && most < greatest;
        }

        private void exchange(int i, int j) {
            int a = rowOf[i];
            int b = rowOf[j];
            rowHold[a] += hold[j] - hold[i];
            rowHold[b] += hold[i] - hold[j];
            rowOf[i] = b;
            rowOf[j] = a;
        }
    }

    /** A SHARE of a day. */
    private static final class Share {
        static final int MOST = 9;
        static final int BENCHES_MOST = 4;

        int many;
        final int[] hours = new int[MOST];
        final int[] best = new int[MOST];
        int least;
        private int benches;
        private int atLeast;
        private final int[] bench = new int[MOST];
        private final int[] busy = new int[BENCHES_MOST];

        void start(int jobs, int k) {
            many = jobs;
            benches = k;
        }

        void find() {
            int total = 0;
            for (int i = 0; i < many; i++) {
                total += hours[i];
            }
            for (int b = 0; b < benches; b++) {
                busy[b] = 0;
            }
            atLeast = cut(total + benches - 1, benches);
            least = total + 1;
            place(0, 0);
        }

        private void place(int i, int used) {
            if (i >= many) {
                take();
                return;
            }
            for (int b = 0; b <= used && b < benches && least > atLeast; b++) {
                if (busy[b] + hours[i] < least) {
                    bench[i] = b;
                    busy[b] += hours[i];
                    place(i + 1, b == used ? used + 1 : used);
                    busy[b] -= hours[i];
                }
            }
        }

        private void take() {
            int longest = 0;
            for (int b = 0; b < benches; b++) {
                longest = Math.max(longest, busy[b]);
            }
            if (longest < least) {
                least = longest;
                System.arraycopy(bench, 0, best, 0, many);
            }
        }
    }

    /** WELDS as told; a NODE is twice its CELL, and 1 more for its +. */
    private static final class Welds {
        static final int MOST = 12;
        static final int NEARS = 64;

        int many;
        final int[] one = new int[MOST];
        final int[] other = new int[MOST];
        /** Those it is 'after', as bits. */
        final int[] after = new int[MOST];
        int nears;
        final int[] nearTo = new int[NEARS];
        final int[] nearOne = new int[NEARS];
        final int[] nearOther = new int[NEARS];
        private final int[] names = new int[MOST];
        private int node;

        boolean readFrom(Tape t) {
            many = 0;
            nears = 0;
            t.begin(400);
            for (int left = Tape.ROOM; left > 0 && t.sort != Tape.END; left--) {
                if (!readStrip(t)) {
                    return false;
                }
                many++;
            }
            return true;
        }

        private boolean readStrip(Tape t) {
            if (t.word != STRIP) {
                return t.refuse(1);
            }
            if (many >= MOST) {
                return t.refuse(4);
            }
            t.step();
            if (!t.isName()) {
                return t.refuse(1);
            }
            if (named(t.value) != NONE) {
                return t.refuse(3);
            }
            names[many] = t.value;
            t.step();
            return readEnds(t) && readAfters(t) && readNears(t) && t.takeSign(';');
        }

        private int named(int name) {
            for (int k = 0; k < many; k++) {
                if (names[k] == name) {
                    return k;
                }
            }
            return NONE;
        }

        private boolean readNode(Tape t) {
            if (!t.isNumber(0, CELLS - 1)) {
                return false;
            }
            node = 2 * t.value;
            t.step();
            if (t.sort != '+' && t.sort != '-') {
                return t.refuse(1);
            }
            node += t.sort == '+' ? 1 : 0;
            t.step();
            return true;
        }

        private boolean readEnds(Tape t) {
            if (!readNode(t)) {
                return false;
            }
            one[many] = node;
            if (!readNode(t)) {
                return false;
            }
            other[many] = node;
            return true;
        }

        private boolean readAfters(Tape t) {
            after[many] = 0;
            for (int left = Tape.ROOM; left > 0 && t.word == AFTER; left--) {
                t.step();
                if (!t.isName()) {
                    return t.refuse(1);
                }
                int k = named(t.value);
                if (k == NONE) {
                    return t.refuse(3);
                }
                after[many] |= 1 << k;
                t.step();
            }
            return true;
        }

        private boolean readNears(Tape t) {
            // A text of 400 bytes has no room for so many.
            for (int left = NEARS - nears; left > 0 && t.word == NEAR; left--) {
                t.step();
                if (!readNode(t)) {
                    return false;
                }
                nearOne[nears] = node;
                if (!readNode(t)) {
                    return false;
                }
                nearOther[nears] = node;
                nearTo[nears] = many;
                nears++;
            }
            return true;
        }
    }

    /** Strips done one behind the other: which CELLS hang together, and how high their - ends are, step by step. */
    private static final class Welding {
        /** How many strips the latest ORDER has, and which. */
        int many;
        final int[] told = new int[Welds.MOST];
        private final int[] chosen = new int[Welds.MOST];
        private final int[] group = new int[(Welds.MOST + 1) * CELLS];
        private final int[] height = new int[(Welds.MOST + 1) * CELLS];
        /** For each set of strips done, as a bit: no ORDER goes on from it. */
        private final int[] dead = new int[1 << Welds.MOST - 5];

        boolean findOrder(Welds w) {
            for (int i = 0; i < dead.length; i++) {
                dead[i] = 0;
            }
            begin();
            if (!goesOn(w, 0, 0)) {
                return false;
            }
            many = w.many;
            System.arraycopy(chosen, 0, told, 0, many);
            return true;
        }

        /** How many of the tape's first bytes are strips that can be done so. */
        int goodSteps(Welds w, Tape t, int size) {
            begin();
            int done = 0;
            for (int i = 0; i < size; i++) {
                int k = t.at(i);
                if (k < 0 || k >= w.many || !isNext(w, done, k) || !weld(w, i, k)) {
                    return i;
                }
                done |= 1 << k;
            }
            return size;
        }

        private void begin() {
            for (int c = 0; c < CELLS; c++) {
                group[c] = c;
                height[c] = 0;
            }
        }

        private static boolean isNext(Welds w, int done, int k) {
            return (done >> k & 1) == 0 && (w.after[k] & ~done) == 0;
        }

        private boolean goesOn(Welds w, int done, int step) {
            if (step >= w.many) {
                return true;
            }
            for (int k = 0; k < w.many; k++) {
                int then = done | 1 << k;
                if (isNext(w, done, k) && !isDead(then) && weld(w, step, k) && !spoilsRest(w, then, step + 1)) {
                    chosen[step] = k;
                    if (goesOn(w, then, step + 1)) {
                        return true;
                    }
                }
            }
            dead[done >> 5] |= 1 << (done & 31);
            return false;
        }

        private boolean isDead(int done) {
            return (dead[done >> 5] >> (done & 31) & 1) != 0;
        }

        /** What hangs together never comes apart, so a strip that would SHORT now will SHORT whenever it is done. */
        private boolean spoilsRest(Welds w, int done, int step) {
            for (int k = 0; k < w.many; k++) {
                if ((done >> k & 1) == 0 && shorts(w, step, k)) {
                    return true;
                }
            }
            return false;
        }

        /** Does strip k behind so many steps; false: it SHORTS. */
        private boolean weld(Welds w, int step, int k) {
            int from = step * CELLS;
            int to = from + CELLS;
            System.arraycopy(group, from, group, to, CELLS);
            System.arraycopy(height, from, height, to, CELLS);
            if (!together(step, w.one[k], w.other[k])) {
                int lift = apart(step, w.one[k], w.other[k]);
                int moved = group[to + (w.other[k] >> 1)];
                int into = group[to + (w.one[k] >> 1)];
                for (int c = to; c < to + CELLS; c++) {
                    if (group[c] == moved) {
                        group[c] = into;
                        height[c] += lift;
                    }
                }
            }
            return !shorts(w, step + 1, k);
        }

        private boolean shorts(Welds w, int step, int k) {
            if (together(step, w.one[k], w.other[k]) && apart(step, w.one[k], w.other[k]) != 0) {
                return true;
            }
            for (int n = 0; n < w.nears; n++) {
                if (w.nearTo[n] == k && together(step, w.nearOne[n], w.nearOther[n])) {
                    int by = apart(step, w.nearOne[n], w.nearOther[n]);
                    if (by > 1 || by < -1) {
                        return true;
                    }
                }
            }
            return false;
        }

        private boolean together(int step, int one, int other) {
            return group[step * CELLS + (one >> 1)] == group[step * CELLS + (other >> 1)];
        }

        /** How much higher one is than the other. */
        private int apart(int step, int one, int other) {
            return height[step * CELLS + (one >> 1)] + (one & 1) - height[step * CELLS + (other >> 1)] - (other & 1);
        }
    }
}
