/** Promises 17 to 25: ROWS, SWAPS, MOST, SHARE. */
public final class RowsTest {
    private static final Due DUE = new Due();

    public static void main(String[] args) {
        rows();
        wrongRows();
        swaps();
        wrongSwaps();
        most();
        share();
        DUE.finish();
    }

    private static int[] passes(int n) {
        int[] all = new int[n];
        java.util.Arrays.fill(all, 50);
        return all;
    }

    private static DeadPacks holding(int... holds) {
        return Due.holding(holds, passes(holds.length));
    }

    private static void rowsAre(DeadPacks x, int... due) {
        for (int i = 0; i < due.length; i++) {
            DUE.is("rowAt(" + i + ")", x.rowAt(i), due[i]);
        }
        DUE.is("rowAt behind", x.rowAt(due.length), -1);
        DUE.is("rowAt ahead", x.rowAt(-1), -1);
    }

    private static void rows() {
        DeadPacks x = holding(10, 20, 30, 40);
        DUE.is("ahead of any", x.rowAt(0), -1);
        DUE.is("ahead of any", x.rowsBy(0), -1);
        DUE.is("two rows", Due.tape(x, 0, 1, 2, 3).rows(2), 50);
        rowsAre(x, 0, 1, 1, 0);
        DUE.is("UNEVEN", x.rowsBy(0), 0);
        DUE.is("UNLIKE", x.rowsBy(1), 0);
        DUE.is("another what", x.rowsBy(2), -1);
        DUE.is("another what", x.rowsBy(-1), -1);
        DUE.is("as told, not by number", Due.tape(x, 2, 1, 3, 0).rows(2), 50);
        rowsAre(x, 0, 0, 1, 1);
        DUE.is("one row", Due.tape(x, 3, 0).rows(1), 50);
        rowsAre(x, 0, 0);
        DUE.is("each in its own", Due.tape(x, 3, 0, 2).rows(3), 10);
        rowsAre(x, 0, 1, 2);
        DUE.is("UNEVEN", x.rowsBy(0), 30);
        // WEAK alike 40 (40+1, 30+10 .. ): least UNEVEN decides
        DeadPacks y = holding(1, 39, 50, 60, 2, 90);
        DUE.is("least UNEVEN", Due.tape(y, 0, 1, 2, 3, 4, 5).rows(3), 62);
        // the FLOWS decide: HOLDS all alike
        DeadPacks z = Due.holding(new int[] {5, 5, 5, 5}, new int[] {10, 20, 40, 100});
        DUE.is("least UNLIKE", Due.tape(z, 0, 1, 2, 3).rows(2), 10);
        rowsAre(z, 0, 1, 1, 0);
        DUE.is("UNLIKE", z.rowsBy(1), 110000 - 75000);
        // all alike: the first way
        DeadPacks w = holding(7, 7, 7, 7, 7, 7, 7, 7, 7, 7, 7, 7);
        DUE.is("all alike", Due.tape(w, 0, 1, 2, 3, 4, 5, 6, 7, 8, 9, 10, 11).rows(4), 21);
        rowsAre(w, 0, 0, 0, 1, 1, 1, 2, 2, 2, 3, 3, 3);
    }

    private static void wrongRows() {
        DeadPacks x = holding(10, 20, 30, 40, 50, 60, 70, 80, 90, 100, 110, 120, 130);
        x.cell(0);
        DUE.is("good", Due.tape(x, 4, 5).rows(2), 50);
        DUE.is("of one", Due.tape(x, 4).rows(1), -1);
        DUE.is("of none", Due.tape(x).rows(1), -1);
        DUE.is("of 13", Due.tape(x, 0, 1, 2, 3, 4, 5, 6, 7, 8, 9, 10, 11, 12).rows(1), -1);
        DUE.is("of 12", Due.tape(x, 0, 1, 2, 3, 4, 5, 6, 7, 8, 9, 10, 11).rows(12), 10);
        DUE.is("in 0", Due.tape(x, 4, 5).rows(0), -1);
        DUE.is("in -1", Due.tape(x, 4, 5).rows(-1), -1);
        DUE.is("in 4", Due.tape(x, 4, 5).rows(4), -1);
        DUE.is("no divisor", Due.tape(x, 4, 5, 6).rows(2), -1);
        DUE.is("alike ones", Due.tape(x, 4, 5, 6, 4).rows(2), -1);
        DUE.is("not TRUE", Due.tape(x, 4, 13).rows(2), -1);
        DUE.is("no CELL", Due.tape(x, 4, 14).rows(2), -1);
        DUE.is("no CELL", Due.tape(x, 4, 255).rows(2), -1);
        DUE.is("the tape is empty then", x.count(8), 0);
        DUE.is("told stays", x.rowAt(11), 11);
        Due.tape(x, 4, 5).pack(1, 0);
        DUE.is("in a PACK is fine", Due.tape(x, 4, 5).rows(2), 50);
        Due.tape(x, "box x;").house();
        DUE.is("a new HOUSE leaves it", x.rowAt(1), 1);
    }

    private static void swapsAre(DeadPacks x, int... due) {
        for (int i = 0; i < due.length; i++) {
            DUE.is("swapAt(" + i + ")", x.swapAt(i), due[i]);
        }
        DUE.is("swapAt behind", x.swapAt(due.length), -1);
        DUE.is("swapAt ahead", x.swapAt(-1), -1);
    }

    private static void swaps() {
        DeadPacks x = holding(10, 20, 30, 40, 20, 20);
        DUE.is("ahead of any", x.swapAt(0), -1);
        DUE.is("ahead of any", x.swapsBy(0), -1);
        // falling: 40 (3), 30 (2), 20 (1), 20 (4), 20 (5), 10 (0): dealt 0 1 2 2 1 0
        DUE.is("three rows", Due.tape(x, 0, 1, 2, 3, 4, 5).swaps(3), 40);
        DUE.is("END", x.swapsBy(0), 46);
        DUE.is("times", x.swapsBy(1), 0);
        DUE.is("UNEVEN", x.swapsBy(2), 10);
        DUE.is("another what", x.swapsBy(3), -1);
        DUE.is("another what", x.swapsBy(-1), -1);
        swapsAre(x, 0, 2, 1, 0, 2, 1);
        // falling 100 90 80 10 10 10 as 0 1 2 2 1 0: even already but for 110 100 90
        DeadPacks y = holding(100, 9, 8, 7, 6, 1);
        // falling in 2 rows: 100:0 9:1 8:1 7:0 6:0 1:1: 113 and 18; 100 against any can't help; 7 against 9 does
        // i 0: j 1: 22 and 109; WEAK grows from 18 to 22
        DUE.is("an exchange", Due.tape(y, 0, 1, 2, 3, 4, 5).swaps(2), 24);
        DUE.is("UNEVEN", y.swapsBy(2), 131 - 48);
        DUE.is("one row", Due.tape(y, 0, 1, 2).swaps(1), 117);
        swapsAre(y, 0, 0, 0);
        int[] many = new int[40];
        int[] bytes = new int[40];
        for (int i = 0; i < 40; i++) {
            many[i] = i + 1;
            bytes[i] = i;
        }
        DeadPacks z = holding(many);
        DUE.is("forty", Due.tape(z, bytes).swaps(20), 41);
        DUE.is("forty in forty", Due.tape(z, bytes).swaps(40), 1);
        DUE.is("UNEVEN", z.swapsBy(2), 39);
    }

    private static void wrongSwaps() {
        int[] holds = new int[41];
        int[] bytes = new int[41];
        for (int i = 0; i < 41; i++) {
            holds[i] = 5;
            bytes[i] = i;
        }
        DeadPacks x = holding(holds);
        x.cell(0);
        DUE.is("of 41", Due.tape(x, bytes).swaps(1), -1);
        DUE.is("of 1", Due.tape(x, 1).swaps(1), -1);
        DUE.is("no divisor", Due.tape(x, 1, 2, 3).swaps(2), -1);
        DUE.is("in 0", Due.tape(x, 1, 2, 3).swaps(0), -1);
        DUE.is("alike", Due.tape(x, 1, 1).swaps(1), -1);
        DUE.is("not TRUE", Due.tape(x, 1, 41).swaps(1), -1);
        DUE.is("no CELL", Due.tape(x, 1, 42).swaps(1), -1);
        DUE.is("the tape is empty then", x.count(8), 0);
        DUE.is("none told", x.swapsBy(1), -1);
    }

    private static void most() {
        DeadPacks x = holding(101, 120, 84, 95, 60);
        x.cell(0);
        int[][] due = {{1, 1, 95, 3}, {2, 1, 95, 1}, {4, 1, 95, 0}, {1, 1, 60, 5}, {1, 1, 61, 4}, {1, 1, 121, 0},
            {1, 2, 180, 2}, {1, 2, 186, 2}, {1, 2, 197, 1}, {1, 2, 221, 1}, {1, 2, 222, 0}, {2, 2, 186, 1},
            {3, 2, 1, 0}, {20, 1, 1, 0}, {1, 1, 800, 0}, {0, 1, 1, -1}, {21, 1, 1, -1}, {1, 0, 1, -1}, {1, 3, 1, -1},
            {1, 1, 0, -1}, {1, 1, 801, -1}, {-1, 1, 1, -1}};
        for (int[] d : due) {
            DUE.is("most(" + d[0] + ", " + d[1] + ", " + d[2] + ")",
                    Due.tape(x, 0, 1, 2, 3, 4).most(d[0], d[1], d[2]), d[3]);
        }
        DUE.is("of none", Due.tape(x).most(1, 1, 1), -1);
        DUE.is("of one", Due.tape(x, 2).most(1, 1, 84), 1);
        DUE.is("of one in pairs", Due.tape(x, 2).most(1, 2, 1), 0);
        DUE.is("alike", Due.tape(x, 2, 2).most(1, 1, 1), -1);
        DUE.is("not TRUE", Due.tape(x, 2, 5).most(1, 1, 1), -1);
        DUE.is("no CELL", Due.tape(x, 2, 6).most(1, 1, 1), -1);
        DUE.is("the tape is empty then", x.count(8), 0);
        Due.tape(x, 0, 1).pack(1, 0);
        DUE.is("in a PACK is fine", Due.tape(x, 0, 1, 2).most(1, 1, 84), 3);
        DUE.is("in a PACK is fine", Due.tape(x, 0, 1).swaps(2), 101);
        DUE.is("told in any order", Due.tape(holding(10, 1, 5, 6), 0, 1, 2, 3).most(1, 2, 11), 2);
        int[] holds = new int[60];
        int[] bytes = new int[61];
        for (int i = 0; i < 60; i++) {
            holds[i] = i + 1;
            bytes[i] = i;
        }
        DeadPacks y = holding(holds);
        DUE.is("of 61", Due.tape(y, bytes).most(1, 1, 1), -1);
        DUE.is("of 60", Due.tape(y, java.util.Arrays.copyOf(bytes, 60)).most(1, 2, 61), 30);
        DUE.is("of 60", Due.tape(y, java.util.Arrays.copyOf(bytes, 60)).most(7, 2, 61), 4);
        DUE.is("of 60", Due.tape(y, java.util.Arrays.copyOf(bytes, 60)).most(1, 2, 62), 29);
    }

    private static void sharesAre(DeadPacks x, int... due) {
        for (int i = 0; i < due.length; i++) {
            DUE.is("shareAt(" + i + ")", x.shareAt(i), due[i]);
        }
        DUE.is("shareAt behind", x.shareAt(due.length), -1);
        DUE.is("shareAt ahead", x.shareAt(-1), -1);
    }

    private static void share() {
        DeadPacks x = new DeadPacks();
        DUE.is("ahead of any", x.shareAt(0), -1);
        DUE.is("two", Due.tape(x, 3, 5, 2, 4).share(2), 7);
        sharesAre(x, 0, 1, 1, 0);
        DUE.is("one", Due.tape(x, 3, 5, 2, 4).share(1), 14);
        sharesAre(x, 0, 0, 0, 0);
        // benches may stay empty: the first way puts all that fits on the first
        DUE.is("four", Due.tape(x, 1, 9, 1, 1).share(4), 9);
        sharesAre(x, 0, 1, 0, 0);
        DUE.is("one job", Due.tape(x, 99).share(4), 99);
        sharesAre(x, 0);
        DUE.is("nine", Due.tape(x, 7, 7, 6, 6, 5, 5, 4, 4, 4).share(4), 12);
        DUE.is("nine in four", x.shareAt(8) >= 0 && x.shareAt(8) < 4, true);
        int before = x.shareAt(8);
        DUE.is("no job", Due.tape(x).share(1), -1);
        DUE.is("ten jobs", Due.tape(x, 1, 1, 1, 1, 1, 1, 1, 1, 1, 1).share(1), -1);
        DUE.is("0 hours", Due.tape(x, 1, 0).share(1), -1);
        DUE.is("100 hours", Due.tape(x, 1, 100).share(1), -1);
        DUE.is("200 hours", Due.tape(x, 200).share(1), -1);
        DUE.is("on 0", Due.tape(x, 1).share(0), -1);
        DUE.is("on 5", Due.tape(x, 1).share(5), -1);
        DUE.is("the tape is empty then", x.count(8), 0);
        DUE.is("told stays", x.shareAt(8), before);
    }
}
