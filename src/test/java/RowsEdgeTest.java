import java.util.Arrays;

/** Section 3: the edges of ROWS, SWAPS, MOST and SHARE, each sentence by itself (promises 17 to 25). */
public final class RowsEdgeTest {
    private static final Due DUE = new Due();
    private static final int[] FAR = {Integer.MIN_VALUE, Integer.MAX_VALUE};

    public static void main(String[] args) {
        flowOfCell();
        rowsMany();
        rowsIn();
        rowsCells();
        greatestWeak();
        leastUneven();
        leastUnlike();
        allWays();
        firstWay();
        rowAtLatest();
        rowsByLatest();
        swapsMany();
        swapsIn();
        swapsCells();
        dealt();
        firstExchange();
        onlyBetter();
        fiveHundred();
        end();
        swapAtLatest();
        swapsByLatest();
        mostMany();
        mostNumbers();
        mostRows();
        mostPairs();
        shareJobs();
        shareHours();
        shareBenches();
        shareLeast();
        shareFirst();
        shareAtLatest();
        DUE.finish();
    }

    private static DeadPacks holding(int... holds) {
        return Due.holding(holds, Due.alike(50, holds.length));
    }

    private static DeadPacks alike(int n) {
        return holding(Due.alike(10, n));
    }

    private static void flowOfCell() {
        DUE.by("FLOW of a CELL: 1000000 by its TRUE PASS, cut");
        int[] passes = {1, 2, 3, 7, 500, 998, 999};
        DeadPacks x = Due.holding(Due.alike(5, 7), passes);
        for (int c = 0; c < 7; c++) {
            DUE.is("FLOW of " + passes[c], x.about(c, 4), 1000000 / passes[c]);
        }
    }

    private static void rowsMany() {
        DUE.by("ROWS of some CELLS (2 to 12)");
        DeadPacks x = alike(13);
        DUE.is("0", Due.tape(x).rows(1), -1);
        DUE.is("1", Due.tape(x, 5).rows(1), -1);
        DUE.is("13", Due.tape(x, Due.from(0, 13)).rows(1), -1);
        DUE.is("540", Due.tape(x, Due.from(0, 540)).rows(1), -1);
        DUE.is("none told yet", x.rowAt(0), -1);
        DUE.is("2", Due.tape(x, 5, 6).rows(1), 20);
        DUE.is("12", Due.tape(x, Due.from(1, 12)).rows(1), 120);
        DUE.is("12 in 12", Due.tape(x, Due.from(1, 12)).rows(12), 10);
        DUE.is("the last one's ROW", x.rowAt(11), 11);
    }

    private static void rowsIn() {
        DUE.by("in S (1 and more, a divisor of how many they are)");
        DeadPacks x = alike(12);
        for (int s = -2; s <= 14; s++) {
            boolean good = s >= 1 && s <= 12 && 12 % s == 0;
            DUE.is("12 in " + s, Due.tape(x, Due.from(0, 12)).rows(s), good ? 120 / s : -1);
            DUE.is("the tape is empty then", x.count(8), 0);
        }
        for (int far : FAR) {
            DUE.is("far", Due.tape(x, 0, 1).rows(far), -1);
        }
        DUE.is("2 in 2", Due.tape(x, 0, 1).rows(2), 10);
        DUE.is("2 in 3", Due.tape(x, 0, 1).rows(3), -1);
        DUE.is("7 in 7", Due.tape(x, Due.from(0, 7)).rows(7), 10);
        DUE.is("7 in 2", Due.tape(x, Due.from(0, 7)).rows(2), -1);
    }

    private static void rowsCells() {
        DUE.by("the tape's CELLS (unlike, TRUE)");
        DeadPacks x = alike(4);
        x.cell(0);
        DUE.is("unlike", Due.tape(x, 3, 0, 2, 1).rows(2), 20);
        DUE.is("the first twice", Due.tape(x, 3, 0, 2, 3).rows(2), -1);
        DUE.is("side by side", Due.tape(x, 3, 3).rows(1), -1);
        DUE.is("not TRUE", Due.tape(x, 3, 4).rows(1), -1);
        DUE.is("not TRUE", Due.tape(x, 4, 3).rows(1), -1);
        DUE.is("no CELL", Due.tape(x, 5, 3).rows(1), -1);
        DUE.is("no CELL", Due.tape(x, 3, 60).rows(1), -1);
        DUE.is("no CELL", Due.tape(x, 3, 64).rows(1), -1);
        DUE.is("no CELL", Due.tape(x, 3, 128).rows(1), -1);
        DUE.is("no CELL", Due.tape(x, 3, 255).rows(1), -1);
        x.read(4, 0, 5, 5);
        DUE.is("TRUE then", Due.tape(x, 3, 4).rows(1), 15);
        DeadPacks y = holding(Due.from(1, 60));
        DUE.is("CELLS 0 and 59", Due.tape(y, 59, 0).rows(1), 61);
        DUE.is("CELLS 32 and 0", Due.tape(y, 32, 0).rows(1), 34);
    }

    private static void rowsAre(DeadPacks x, int... due) {
        for (int i = 0; i < due.length; i++) {
            DUE.is("rowAt(" + i + ")", x.rowAt(i), due[i]);
        }
    }

    private static void greatestWeak() {
        DUE.by("the greatest WEAK");
        // 9+1 | 4+4: 8; 9+4 | 4+1: 5
        DeadPacks x = holding(9, 4, 4, 1);
        DUE.is("WEAK", Due.tape(x, 0, 1, 2, 3).rows(2), 8);
        rowsAre(x, 0, 1, 1, 0);
        DUE.is("UNEVEN", x.rowsBy(0), 2);
    }

    private static void leastUneven() {
        DUE.by("of like ones the least UNEVEN");
        // three ROWS of one are as they are; of two: 1+20 is WEAK whatever stands else: 10+13 | 11+12
        DeadPacks x = holding(1, 20, 30, 40, 50, 60);
        // WEAK 61 by 1+60; then 20+50 | 30+40 (UNEVEN 9) or 20+40 is less, 20+30 less
        DUE.is("WEAK", Due.tape(x, 0, 1, 2, 3, 4, 5).rows(3), 61);
        DUE.is("UNEVEN", x.rowsBy(0), 9);
        rowsAre(x, 0, 1, 2, 2, 1, 0);
        // 1+9 is WEAK: 4+6 | 8+8 comes first, 4+8 | 6+8 is less UNEVEN
        DeadPacks w = holding(1, 9, 4, 6, 8, 8);
        DUE.is("WEAK", Due.tape(w, 0, 1, 2, 3, 4, 5).rows(3), 10);
        DUE.is("UNEVEN", w.rowsBy(0), 4);
        rowsAre(w, 0, 0, 1, 2, 1, 2);
        // 130 in three ROWS: 43 43 44 is the best there can be: 20+23 | 20+24 | 21+22
        DeadPacks y = holding(20, 20, 21, 22, 23, 24);
        DUE.is("WEAK", Due.tape(y, 0, 1, 2, 3, 4, 5).rows(3), 43);
        DUE.is("UNEVEN", y.rowsBy(0), 1);
    }

    private static void leastUnlike() {
        DUE.by("then the least UNLIKE");
        // HOLDS alike, FLOWS 100000 50000 25000 12500
        DeadPacks x = Due.holding(Due.alike(7, 4), new int[] {10, 20, 40, 80});
        DUE.is("WEAK", Due.tape(x, 0, 1, 2, 3).rows(2), 14);
        DUE.is("UNLIKE", x.rowsBy(1), 112500 - 75000);
        rowsAre(x, 0, 1, 1, 0);
        DUE.is("the same told otherwise", Due.tape(x, 2, 1, 3, 0).rows(2), 14);
        rowsAre(x, 0, 0, 1, 1);
        // UNEVEN goes ahead of UNLIKE
        DeadPacks y = Due.holding(new int[] {7, 8, 8, 7}, new int[] {10, 10, 20, 20});
        DUE.is("WEAK", Due.tape(y, 0, 1, 2, 3).rows(2), 15);
        rowsAre(y, 0, 1, 0, 1);
        DUE.is("UNLIKE", y.rowsBy(1), 0);
        DeadPacks z = Due.holding(new int[] {7, 8, 9, 6}, new int[] {10, 20, 20, 10});
        DUE.is("WEAK", Due.tape(z, 0, 1, 2, 3).rows(2), 15);
        rowsAre(z, 0, 0, 1, 1);
        DeadPacks w = Due.holding(new int[] {7, 8, 9, 6}, new int[] {10, 10, 20, 20});
        DUE.is("WEAK", Due.tape(w, 0, 1, 2, 3).rows(2), 15);
        rowsAre(w, 0, 0, 1, 1);
        DUE.is("UNLIKE", w.rowsBy(1), 100000);
    }

    private static int[] bestWay;
    private static int[] bestNumbers;

    /** All ways in order, plainly: the best one's ROWS, WEAK, UNEVEN, UNLIKE. */
    private static void tryAll(int[] holds, int[] flows, int s, int[] rows, int i, int used) {
        int n = holds.length;
        if (i == n) {
            int[] sums = new int[s];
            int[] flow = new int[s];
            int[] many = new int[s];
            for (int k = 0; k < n; k++) {
                sums[rows[k]] += holds[k];
                flow[rows[k]] += flows[k];
                many[rows[k]]++;
            }
            for (int r = 0; r < s; r++) {
                if (many[r] != n / s) {
                    return;
                }
            }
            Arrays.sort(sums);
            Arrays.sort(flow);
            int[] told = {-sums[0], sums[s - 1] - sums[0], flow[s - 1] - flow[0]};
            if (bestNumbers == null || Arrays.compare(told, bestNumbers) < 0) {
                bestNumbers = told;
                bestWay = rows.clone();
            }
            return;
        }
        for (int r = 0; r <= used && r < s; r++) {
            rows[i] = r;
            tryAll(holds, flows, s, rows, i + 1, Math.max(used, r + 1));
        }
    }

    private static void allWays() {
        DUE.by("the greatest WEAK; then the least UNEVEN; then the least UNLIKE; then the first: of all ways");
        int[][] holds = {{5, 5, 5, 5}, {5, 5, 5, 5, 5, 5}, {3, 1, 2, 3, 1, 2}, {9, 1, 8, 2, 7, 3, 6, 4}, {1, 2, 3, 4, 5, 6, 7, 8},
            {4, 4, 4, 4, 5, 5, 5, 5}, {1, 1, 1, 1, 1, 1, 1, 20}, {6, 6, 6, 6, 6, 6, 6, 6}, {2, 2, 2, 3, 3, 3, 1, 1, 1}};
        int[][] passes = {{10, 20, 40, 80, 160, 320, 640, 999, 500}, {500, 20, 500, 30, 500, 30, 500, 20, 10},
            {900, 901, 905, 920, 940, 960, 980, 999, 930}, {999, 3, 3, 3, 999, 999, 7, 7, 7}, {50, 50, 50, 50, 50, 50, 50, 50, 50},
            {999, 991, 998, 992, 991, 997, 999, 991, 998}};
        for (int[] h : holds) {
            for (int[] p : passes) {
                int n = h.length;
                int[] flows = new int[n];
                for (int i = 0; i < n; i++) {
                    flows[i] = 1000000 / p[i];
                }
                DeadPacks x = Due.holding(h, Arrays.copyOf(p, n));
                for (int s = 1; s <= n; s++) {
                    if (n % s == 0) {
                        bestNumbers = null;
                        tryAll(h, flows, s, new int[n], 0, 0);
                        String what = Arrays.toString(h) + " " + Arrays.toString(flows) + " in " + s;
                        DUE.is(what + ": WEAK", Due.tape(x, Due.from(0, n)).rows(s), -bestNumbers[0]);
                        DUE.is(what + ": UNEVEN", x.rowsBy(0), bestNumbers[1]);
                        DUE.is(what + ": UNLIKE", x.rowsBy(1), bestNumbers[2]);
                        rowsAre(x, bestWay);
                    }
                }
            }
        }
    }

    private static void firstWay() {
        DUE.by("then the first (ROW of CELL by CELL as told, ROWS numbered as they first come)");
        DeadPacks x = alike(12);
        for (int s : new int[] {1, 2, 3, 4, 6, 12}) {
            DUE.is("all alike", Due.tape(x, Due.from(0, 12)).rows(s), 120 / s);
            for (int i = 0; i < 12; i++) {
                DUE.is("rowAt(" + i + ") of " + s, x.rowAt(i), i / (12 / s));
            }
        }
        // 5+1 and 4+2 and 3+3 in any order: the CELL told first is in ROW 0
        DeadPacks y = holding(1, 2, 3, 3, 4, 5);
        Due.tape(y, 4, 0, 2, 5, 1, 3).rows(3);
        rowsAre(y, 0, 1, 2, 1, 0, 2);
        // two of 3 and two of 5: the first that is told goes with the first that is told
        DeadPacks z = holding(3, 5, 3, 5);
        Due.tape(z, 0, 2, 1, 3).rows(2);
        rowsAre(z, 0, 1, 0, 1);
    }

    private static void rowAtLatest() {
        DUE.by("rowAt: by the latest rows() that was not NONE; NONE: there is none such, or ahead of any");
        DeadPacks x = holding(1, 2, 3, 4);
        DUE.is("ahead of any", x.rowAt(0), -1);
        Due.tape(x, 0, 0).rows(1);
        DUE.is("a refused one is none", x.rowAt(0), -1);
        Due.tape(x, 0, 1, 2, 3).rows(2);
        rowsAre(x, 0, 1, 1, 0);
        DUE.is("4", x.rowAt(4), -1);
        DUE.is("-1", x.rowAt(-1), -1);
        for (int far : FAR) {
            DUE.is("far", x.rowAt(far), -1);
        }
        Due.tape(x, 0, 1, 2).rows(2);
        Due.tape(x, 0, 1, 2, 3).swaps(4);
        rowsAre(x, 0, 1, 1, 0);
        x.read(0, 0, 400, 5);
        rowsAre(x, 0, 1, 1, 0);
        Due.tape(x, 0, 1).rows(2);
        rowsAre(x, 0, 1);
        DUE.is("only two now", x.rowAt(2), -1);
    }

    private static void rowsByLatest() {
        DUE.by("rowsBy: its UNEVEN (what 0), UNLIKE (1); NONE: another what, or ahead of any");
        DeadPacks x = Due.holding(new int[] {10, 30}, new int[] {10, 20});
        for (int what = -1; what <= 2; what++) {
            DUE.is("ahead of any: " + what, x.rowsBy(what), -1);
        }
        Due.tape(x, 0).rows(1);
        DUE.is("a refused one is none", x.rowsBy(0), -1);
        Due.tape(x, 0, 1).rows(2);
        int[] due = {-1, 20, 50000, -1};
        for (int what = -1; what <= 2; what++) {
            DUE.is("what " + what, x.rowsBy(what), due[what + 1]);
        }
        Due.tape(x, 0, 1).rows(0);
        DUE.is("a refused one leaves it", x.rowsBy(0), 20);
        DUE.is("a refused one leaves it", x.rowsBy(1), 50000);
        Due.tape(x, 0, 1).rows(1);
        DUE.is("one ROW", x.rowsBy(0), 0);
        DUE.is("one ROW", x.rowsBy(1), 0);
        for (int far : FAR) {
            DUE.is("far", x.rowsBy(far), -1);
        }
    }

    private static void swapsMany() {
        DUE.by("SWAPS (2 to 40 CELLS)");
        DeadPacks x = alike(41);
        DUE.is("0", Due.tape(x).swaps(1), -1);
        DUE.is("1", Due.tape(x, 5).swaps(1), -1);
        DUE.is("41", Due.tape(x, Due.from(0, 41)).swaps(1), -1);
        DUE.is("none told yet", x.swapAt(0), -1);
        DUE.is("2", Due.tape(x, 5, 6).swaps(1), 20);
        DUE.is("13", Due.tape(x, Due.from(0, 13)).swaps(13), 10);
        DUE.is("40", Due.tape(x, Due.from(1, 40)).swaps(1), 400);
        DUE.is("40 in 40", Due.tape(x, Due.from(1, 40)).swaps(40), 10);
        DUE.is("the last one's ROW", x.swapAt(39), 39);
    }

    private static void swapsIn() {
        DUE.by("SWAPS of the tape's CELLS in S, likewise (1 and more, a divisor of how many they are)");
        DeadPacks x = alike(40);
        for (int s = -1; s <= 41; s++) {
            boolean good = s >= 1 && s <= 40 && 40 % s == 0;
            DUE.is("40 in " + s, Due.tape(x, Due.from(0, 40)).swaps(s), good ? 400 / s : -1);
            DUE.is("the tape is empty then", x.count(8), 0);
        }
        for (int far : FAR) {
            DUE.is("far", Due.tape(x, 0, 1).swaps(far), -1);
        }
    }

    private static void swapsCells() {
        DUE.by("swaps: likewise (unlike, TRUE)");
        DeadPacks x = alike(3);
        x.cell(0);
        DUE.is("unlike", Due.tape(x, 2, 0).swaps(1), 20);
        DUE.is("twice", Due.tape(x, 2, 0, 2).swaps(1), -1);
        DUE.is("not TRUE", Due.tape(x, 2, 3).swaps(1), -1);
        DUE.is("no CELL", Due.tape(x, 2, 4).swaps(1), -1);
        DUE.is("no CELL", Due.tape(x, 2, 255).swaps(1), -1);
        x.read(3, 0, 5, 5);
        DUE.is("TRUE then", Due.tape(x, 2, 3).swaps(1), 15);
    }

    private static void swapsAre(DeadPacks x, int... due) {
        for (int i = 0; i < due.length; i++) {
            DUE.is("swapAt(" + i + ")", x.swapAt(i), due[i]);
        }
    }

    private static void dealt() {
        DUE.by("CELLS by falling HOLD (of like ones as told) are dealt to ROWS 0 .. S less 1, then back, and so on");
        // one each: dealt once along
        DeadPacks x = holding(10, 30, 20);
        DUE.is("one each", Due.tape(x, 0, 1, 2).swaps(3), 10);
        swapsAre(x, 2, 0, 1);
        DUE.is("no exchange", x.swapsBy(1), 0);
        // like ones as told
        DeadPacks y = holding(10, 10, 10, 10, 10, 10);
        DUE.is("like ones", Due.tape(y, 5, 4, 3, 2, 1, 0).swaps(3), 20);
        swapsAre(y, 0, 1, 2, 2, 1, 0);
        DUE.is("like ones in 2", Due.tape(y, 0, 1, 2, 3, 4, 5).swaps(2), 30);
        swapsAre(y, 0, 1, 1, 0, 0, 1);
        DUE.is("no exchange", y.swapsBy(1), 0);
        // 60 50 40 30 20 10 in 3: 60+10, 50+20, 40+30
        DeadPacks z = holding(10, 20, 30, 40, 50, 60);
        DUE.is("falling", Due.tape(z, 0, 1, 2, 3, 4, 5).swaps(3), 70);
        swapsAre(z, 0, 1, 2, 2, 1, 0);
    }

    private static void firstExchange() {
        DUE.by("the first two CELLS i, j as told (i below j; by i, then j) of unlike ROWS that, exchanged, make WEAK greater");
        // falling 10 9 8 1: ROW 0: 10 1, ROW 1: 9 8: WEAK 11; 10 for 9 makes 10 and 18, no; 10 for 8: 9; 1 for 9: 19 and 9;
        // 1 for 8: 18 and 10; nothing helps
        DeadPacks x = holding(10, 9, 8, 1);
        DUE.is("nothing helps", Due.tape(x, 0, 1, 2, 3).swaps(2), 11);
        DUE.is("times", x.swapsBy(1), 0);
        // falling 20 9 8 7 2 1: ROW 0: 20 7 2, ROW 1: 9 8 1: 29 and 18
        DeadPacks y = holding(20, 9, 8, 7, 2, 1);
        // as told: (0, 1): 18 and 29, no; (0, 2), (0, 5) less; (1, 3): 7 for 9 makes it less; (1, 4) less; (2, ..) less;
        // (3, 5): 20 1 2 and 9 8 7: 23 and 24
        DUE.is("one exchange", Due.tape(y, 0, 1, 2, 3, 4, 5).swaps(2), 23);
        DUE.is("times", y.swapsBy(1), 1);
        swapsAre(y, 0, 1, 1, 1, 0, 0);
        // told otherwise the first that helps is another one: 2 for 1 first (28 and 19), then 7 for 2 (23 and 24)
        DUE.is("two exchanges", Due.tape(y, 4, 5, 3, 0, 1, 2).swaps(2), 23);
        DUE.is("times", y.swapsBy(1), 2);
        swapsAre(y, 0, 0, 1, 0, 1, 1);
        DUE.by("or leave it and make UNEVEN less");
        // dealt 17 8 7 | 16 13 1 | 15 14 1: 32 30 30; 17 for 16 makes 31 31 30, and nothing is better then
        DeadPacks z = holding(1, 13, 7, 14, 1, 17, 8, 15, 16);
        DUE.is("WEAK", Due.tape(z, Due.from(0, 9)).swaps(3), 30);
        DUE.is("times", z.swapsBy(1), 1);
        DUE.is("UNEVEN", z.swapsBy(2), 1);
        swapsAre(z, 1, 1, 0, 2, 2, 1, 0, 2, 0);
    }

    private static void swapped(String what, DeadPacks x, int weak, int[] due) {
        DUE.is(what + ": WEAK", weak, due[0]);
        DUE.is(what + ": how often", x.swapsBy(1), due[1]);
        DUE.is(what + ": UNEVEN", x.swapsBy(2), due[2]);
        for (int i = 3; i < due.length; i++) {
            DUE.is(what + ": swapAt(" + (i - 3) + ")", x.swapAt(i - 3), due[i]);
        }
    }

    /** WEAK, how often, UNEVEN, and the ROW of each CELL by the document's words, done plainly. */
    private static int[] plainSwaps(int s, int most, int... holds) {
        int n = holds.length;
        Integer[] falling = new Integer[n];
        for (int i = 0; i < n; i++) {
            falling[i] = i;
        }
        Arrays.sort(falling, (a, b) -> holds[b] - holds[a]);
        int[] row = new int[n];
        for (int k = 0; k < n; k++) {
            row[falling[k]] = k / s % 2 == 0 ? k % s : s - 1 - k % s;
        }
        int times = 0;
        boolean more = true;
        while (more && times < most) {
            more = false;
            int[] now = measured(s, row, holds);
            for (int i = 0; i < n && !more; i++) {
                for (int j = i + 1; j < n && !more; j++) {
                    exchange(row, i, j);
                    int[] then = measured(s, row, holds);
                    more = then[0] > now[0] || then[0] == now[0] && then[1] < now[1];
                    if (!more) {
                        exchange(row, i, j);
                    }
                }
            }
            times += more ? 1 : 0;
        }
        int[] end = measured(s, row, holds);
        int[] all = new int[n + 3];
        all[0] = end[0];
        all[1] = times;
        all[2] = end[1];
        System.arraycopy(row, 0, all, 3, n);
        return all;
    }

    private static void exchange(int[] row, int i, int j) {
        int r = row[i];
        row[i] = row[j];
        row[j] = r;
    }

    private static int[] measured(int s, int[] row, int[] holds) {
        int[] sums = new int[s];
        for (int i = 0; i < row.length; i++) {
            sums[row[i]] += holds[i];
        }
        Arrays.sort(sums);
        return new int[] {sums[0], sums[s - 1] - sums[0]};
    }

    private static void onlyBetter() {
        DUE.by("that, exchanged, make WEAK greater, or leave it and make UNEVEN less");
        int[][] heaps = {{9, 9, 9, 1, 1, 1}, {20, 11, 10, 9, 2, 1}, {40, 22, 21, 20, 3, 1, 1, 1}, {50, 49, 3, 2, 2, 1},
            {31, 30, 29, 14, 13, 12, 4, 2}, {17, 13, 11, 7, 5, 3, 2, 2, 2, 1, 1, 1}, {90, 40, 40, 30, 20, 10, 5, 5, 3}};
        for (int[] heap : heaps) {
            for (int s = 1; s <= heap.length; s++) {
                if (heap.length % s == 0) {
                    DeadPacks x = holding(heap);
                    int weak = Due.tape(x, Due.from(0, heap.length)).swaps(s);
                    swapped(Arrays.toString(heap) + " in " + s, x, weak, plainSwaps(s, 500, heap));
                }
            }
        }
    }

    private static void fiveHundred() {
        DUE.by("500 times at most");
        // found by a search: exchanges go on for just so long
        manySwaps(499, 2, 4, 3, 1, 3, 1, 1, 2394, 3, 3, 1, 7, 3, 3, 3, 3, 1, 1, 5, 1, 5, 5, 9, 21, 1061, 5, 25, 1114, 30,
                1009, 1768, 15, 898, 39, 1, 755, 458, 75, 1);
        manySwaps(500, 2, 4, 3, 1, 1, 1, 3, 3, 1, 3, 3, 1, 2394, 3, 3, 1, 3, 1, 5, 7, 5, 5, 9, 21, 1061, 5, 25, 1114, 1768,
                1009, 30, 15, 898, 39, 755, 1, 458, 75, 1);
        manySwaps(501, 2, 4, 3, 1, 1, 1, 3, 3, 1, 1, 1, 3, 3, 2394, 3, 1, 3, 5, 3, 7, 5, 5, 9, 1061, 21, 5, 25, 1114, 1768,
                1009, 30, 15, 898, 39, 755, 1, 458, 75, 1);
        manySwaps(605, 2, 3, 6, 1, 1, 1660, 3, 3, 1721, 3, 3, 3, 3, 9, 3, 4, 7, 15, 28, 2334, 16, 1, 1, 12, 35, 2322, 34,
                1597, 33, 1, 45, 1630, 1, 1284, 134, 1, 1, 70, 1396);
    }

    /** Such HOLDS in three ROWS, that would be exchanged so often, if there were no end. */
    private static void manySwaps(int often, int... holds) {
        DeadPacks x = leaning(holds);
        int weak = Due.tape(x, Due.from(0, holds.length)).swaps(3);
        DUE.is("so often without an end", plainSwaps(3, 100000, holds)[1], often);
        DUE.is("how often", x.swapsBy(1), Math.min(500, often));
        swapped("till " + often, x, weak, plainSwaps(3, 500, holds));
    }

    /** CELLS of these TRUE HOLDS, up to 2395: each BENCH but the first leans 399 further down than the one ahead. */
    private static DeadPacks leaning(int... holds) {
        DeadPacks x = Due.housed("bench a;bench b;bench c;bench d;bench e;bench f;box x;");
        for (int c = 0; c < holds.length; c++) {
            int bench = (holds[c] - 1) / 399;
            x.cell(0);
            x.read(c, Math.min(bench, 5), holds[c] - 399 * Math.min(bench, 5), 50);
        }
        for (int bench = 0; bench < 5; bench++) {
            int c = x.cell(0);
            x.read(c, bench, 400, 50);
            x.read(c, bench + 1, 1, 50);
        }
        for (int c = 0; c < holds.length; c++) {
            DUE.is("TRUE HOLD", x.about(c, 1), holds[c]);
        }
        return x;
    }

    private static void end() {
        DUE.by("END: the sum of all HOLDS by S, cut (no WEAK is above it)");
        DeadPacks x = holding(10, 10, 11);
        Due.tape(x, 0, 1, 2).swaps(3);
        DUE.is("31 by 3", x.swapsBy(0), 10);
        DUE.is("WEAK as END", Due.tape(x, 0, 1, 2).swaps(1), 31);
        DUE.is("31 by 1", x.swapsBy(0), 31);
        DeadPacks y = holding(10, 10, 10, 11, 11, 10);
        DUE.is("WEAK", Due.tape(y, 0, 1, 2, 3, 4, 5).swaps(2), 31);
        DUE.is("62 by 2", y.swapsBy(0), 31);
    }

    private static void swapAtLatest() {
        DUE.by("swapAt: by the latest swaps() that was not NONE; NONE: there is none such, or ahead of any");
        DeadPacks x = holding(1, 2, 3, 4);
        DUE.is("ahead of any", x.swapAt(0), -1);
        Due.tape(x, 0, 0).swaps(1);
        DUE.is("a refused one is none", x.swapAt(0), -1);
        Due.tape(x, 0, 1, 2, 3).rows(2);
        DUE.is("rows() is another call", x.swapAt(0), -1);
        Due.tape(x, 0, 1, 2, 3).swaps(4);
        swapsAre(x, 3, 2, 1, 0);
        DUE.is("4", x.swapAt(4), -1);
        DUE.is("-1", x.swapAt(-1), -1);
        for (int far : FAR) {
            DUE.is("far", x.swapAt(far), -1);
        }
        Due.tape(x, 0, 1, 2).swaps(2);
        Due.tape(x, 0, 1, 2).swaps(0);
        swapsAre(x, 3, 2, 1, 0);
        Due.tape(x, 0, 1).swaps(1);
        swapsAre(x, 0, 0);
        DUE.is("only two now", x.swapAt(2), -1);
    }

    private static void swapsByLatest() {
        DUE.by("swapsBy: its END (what 0), how often (1), UNEVEN (2); NONE: another what, or ahead of any");
        DeadPacks x = holding(20, 9, 8, 7, 2, 1);
        for (int what = -1; what <= 3; what++) {
            DUE.is("ahead of any: " + what, x.swapsBy(what), -1);
        }
        Due.tape(x, 0).swaps(1);
        DUE.is("a refused one is none", x.swapsBy(1), -1);
        Due.tape(x, 0, 1, 2, 3, 4, 5).swaps(2);
        int[] due = {-1, 23, 1, 1, -1};
        for (int what = -1; what <= 3; what++) {
            DUE.is("what " + what, x.swapsBy(what), due[what + 1]);
        }
        Due.tape(x, 0, 1, 2, 3, 4, 5).swaps(4);
        for (int what = 0; what <= 2; what++) {
            DUE.is("a refused one leaves " + what, x.swapsBy(what), due[what + 1]);
        }
        Due.tape(x, 0, 1).swaps(2);
        DUE.is("how often anew", x.swapsBy(1), 0);
        DUE.is("UNEVEN anew", x.swapsBy(2), 11);
        for (int far : FAR) {
            DUE.is("far", x.swapsBy(far), -1);
        }
    }

    private static void mostMany() {
        DUE.by("MOST: of some CELLS (1 to 60); the tape's CELLS (unlike, TRUE)");
        DeadPacks x = alike(60);
        DUE.is("0", Due.tape(x).most(1, 1, 1), -1);
        DUE.is("1", Due.tape(x, 7).most(1, 1, 1), 1);
        DUE.is("60", Due.tape(x, Due.from(0, 60)).most(1, 1, 1), 60);
        DUE.is("61", Due.tape(x, Due.from(0, 61)).most(1, 1, 1), -1);
        int[] twice = Due.from(0, 60);
        twice[59] = 0;
        DUE.is("60, one twice", Due.tape(x, twice).most(1, 1, 1), -1);
        DeadPacks y = alike(2);
        y.cell(0);
        DUE.is("not TRUE", Due.tape(y, 0, 2).most(1, 1, 1), -1);
        DUE.is("no CELL", Due.tape(y, 0, 3).most(1, 1, 1), -1);
        DUE.is("no CELL", Due.tape(y, 255).most(1, 1, 1), -1);
        DUE.is("the tape is empty then", y.count(8), 0);
        DUE.is("good", Due.tape(y, 0, 1).most(1, 1, 1), 2);
        DUE.is("the tape is empty then", y.count(8), 0);
    }

    private static void mostNumbers() {
        DUE.by("most: for S (1 to 20), P, h (1 to 800)");
        DeadPacks x = alike(60);
        int[][] due = {{0, 1, 1, -1}, {1, 1, 1, 60}, {20, 1, 1, 3}, {21, 1, 1, -1}, {-1, 1, 1, -1}, {1, 0, 1, -1},
            {1, 2, 1, 30}, {1, 3, 1, -1}, {1, -1, 1, -1}, {1, 1, 0, -1}, {1, 1, 10, 60}, {1, 1, 11, 0}, {1, 1, 800, 0},
            {1, 1, 801, -1}, {1, 1, -1, -1}, {1, 2, 20, 30}, {1, 2, 21, 0}, {1, 2, 800, 0}, {1, 2, 801, -1}};
        for (int[] d : due) {
            DUE.is("most(" + d[0] + ", " + d[1] + ", " + d[2] + ")",
                    Due.tape(x, Due.from(0, 60)).most(d[0], d[1], d[2]), d[3]);
        }
        for (int far : FAR) {
            DUE.is("far", Due.tape(x, 0).most(far, 1, 1), -1);
            DUE.is("far", Due.tape(x, 0).most(1, far, 1), -1);
            DUE.is("far", Due.tape(x, 0).most(1, 1, far), -1);
        }
        DeadPacks y = holding(400, 400, 399);
        DUE.is("h 800", Due.tape(y, 0, 1).most(1, 2, 800), 1);
        DUE.is("h 800", Due.tape(y, 0, 2).most(1, 2, 800), 0);
    }

    private static void mostRows() {
        DUE.by("the most PACKS of S ROWS");
        DeadPacks x = alike(60);
        for (int s = 1; s <= 20; s++) {
            DUE.is("60 ones in " + s, Due.tape(x, Due.from(0, 60)).most(s, 1, 1), 60 / s);
            DUE.is("30 pairs in " + s, Due.tape(x, Due.from(0, 60)).most(s, 2, 1), 30 / s);
            DUE.is("19 ones in " + s, Due.tape(x, Due.from(0, 19)).most(s, 1, 1), 19 / s);
        }
        DUE.by("each ROW of HOLD h at least");
        DeadPacks y = holding(Due.from(1, 20));
        for (int h = 1; h <= 21; h++) {
            DUE.is("ones of " + h, Due.tape(y, Due.from(0, 20)).most(1, 1, h), 21 - h);
        }
    }

    /** The most pairs of at least h, by trying all. */
    private static int pairs(int[] holds, int used, int h) {
        int i = Integer.numberOfTrailingZeros(~used);
        if (i >= holds.length) {
            return 0;
        }
        int best = pairs(holds, used | 1 << i, h);
        for (int j = i + 1; j < holds.length; j++) {
            if ((used >> j & 1) == 0 && holds[i] + holds[j] >= h) {
                best = Math.max(best, 1 + pairs(holds, used | 1 << i | 1 << j, h));
            }
        }
        return best;
    }

    private static void mostPairs() {
        DUE.by("P (1 or 2) CELLS, each ROW of HOLD h at least");
        int[][] heaps = {{5}, {5, 5}, {5, 4, 3}, {10, 1, 5, 6}, {9, 8, 7, 1, 1, 1}, {1, 2, 3, 4, 5, 6, 7, 8}, {30, 1, 1, 1},
            {7, 7, 7, 7, 7, 7, 7}, {12, 3, 9, 9, 6, 6, 1, 14}};
        for (int[] heap : heaps) {
            DeadPacks x = holding(heap);
            for (int h = 1; h <= 24; h++) {
                DUE.is("pairs of " + Arrays.toString(heap) + " of " + h,
                        Due.tape(x, Due.from(0, heap.length)).most(1, 2, h), pairs(heap, 0, h));
            }
        }
    }

    private static void shareJobs() {
        DUE.by("some jobs (1 to 9)");
        DeadPacks x = new DeadPacks();
        DUE.is("0", Due.tape(x).share(1), -1);
        DUE.is("none told yet", x.shareAt(0), -1);
        DUE.is("1", Due.tape(x, 7).share(1), 7);
        DUE.is("9", Due.tape(x, Due.alike(3, 9)).share(1), 27);
        DUE.is("9 on 4", Due.tape(x, Due.alike(3, 9)).share(4), 9);
        DUE.is("10", Due.tape(x, Due.alike(3, 10)).share(1), -1);
        DUE.is("the tape is empty then", x.count(8), 0);
    }

    private static void shareHours() {
        DUE.by("of 1 to 99 hours");
        DeadPacks x = new DeadPacks();
        DUE.is("0", Due.tape(x, 5, 0).share(1), -1);
        DUE.is("1", Due.tape(x, 5, 1).share(1), 6);
        DUE.is("99", Due.tape(x, 5, 99).share(1), 104);
        DUE.is("100", Due.tape(x, 5, 100).share(1), -1);
        DUE.is("255", Due.tape(x, 255).share(1), -1);
        DUE.is("128", Due.tape(x, 128).share(1), -1);
        DUE.is("nine of 99", Due.tape(x, Due.alike(99, 9)).share(1), 891);
        DUE.is("nine of 99 on 4", Due.tape(x, Due.alike(99, 9)).share(4), 297);
    }

    private static void shareBenches() {
        DUE.by("on k benches (1 to 4)");
        DeadPacks x = new DeadPacks();
        int[] due = {-1, -1, 20, 10, 10, 5, -1};
        for (int k = -1; k <= 5; k++) {
            DUE.is("on " + k, Due.tape(x, 5, 5, 5, 5).share(k), due[k + 1]);
            DUE.is("the tape is empty then", x.count(8), 0);
        }
        for (int far : FAR) {
            DUE.is("far", Due.tape(x, 5).share(far), -1);
        }
    }

    private static void shareLeast() {
        DUE.by("the least hours in which all are done, one behind the other on each");
        DeadPacks x = new DeadPacks();
        DUE.is("more benches than jobs", Due.tape(x, 9, 4).share(4), 9);
        DUE.is("one long job", Due.tape(x, 1, 1, 1, 50).share(2), 50);
        DUE.is("even", Due.tape(x, 3, 3, 2, 2, 2).share(2), 6);
        DUE.is("not even", Due.tape(x, 3, 3, 2, 2, 3).share(2), 7);
        DUE.is("8 7 6 5 4 on 3", Due.tape(x, 8, 7, 6, 5, 4).share(3), 11);
    }

    private static void sharesAre(DeadPacks x, int... due) {
        for (int i = 0; i < due.length; i++) {
            DUE.is("shareAt(" + i + ")", x.shareAt(i), due[i]);
        }
    }

    private static void shareFirst() {
        DUE.by("of like ones the first (bench of job by job, benches numbered as they first come)");
        DeadPacks x = new DeadPacks();
        Due.tape(x, 2, 2, 2).share(2);
        sharesAre(x, 0, 0, 1);
        Due.tape(x, 9, 4, 3).share(3);
        sharesAre(x, 0, 1, 1);
        Due.tape(x, 4, 9, 3).share(4);
        sharesAre(x, 0, 1, 0);
        Due.tape(x, 1, 1, 1, 1).share(4);
        sharesAre(x, 0, 1, 2, 3);
        Due.tape(x, 1, 1, 2, 2).share(3);
        sharesAre(x, 0, 0, 1, 2);
        DUE.is("one bench, behind others", Due.tape(x, 1, 1, 2, 2).share(1), 6);
        sharesAre(x, 0, 0, 0, 0);
        Due.tape(x, 9, 1, 1).share(2);
        sharesAre(x, 0, 1, 1);
        DUE.is("one bench, behind others", Due.tape(x, 9, 1, 1).share(1), 11);
        sharesAre(x, 0, 0, 0);
    }

    private static void shareAtLatest() {
        DUE.by("shareAt: by the latest share() that was not NONE; NONE: there is none such, or ahead of any");
        DeadPacks x = new DeadPacks();
        DUE.is("ahead of any", x.shareAt(0), -1);
        Due.tape(x, 0).share(1);
        DUE.is("a refused one is none", x.shareAt(0), -1);
        Due.tape(x, 5, 3, 2).share(2);
        sharesAre(x, 0, 1, 1);
        DUE.is("3", x.shareAt(3), -1);
        DUE.is("-1", x.shareAt(-1), -1);
        for (int far : FAR) {
            DUE.is("far", x.shareAt(far), -1);
        }
        Due.tape(x, 5, 3, 2, 100).share(2);
        Due.tape(x, 1, 1).share(5);
        sharesAre(x, 0, 1, 1);
        Due.tape(x, 5).share(2);
        DUE.is("only one now", x.shareAt(0), 0);
        DUE.is("only one now", x.shareAt(1), -1);
    }
}
