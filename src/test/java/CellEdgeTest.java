/** Section 2: the edges of CELLS, READINGS, RESTS and what follows from them, each sentence by itself (promises 6 to 16). */
public final class CellEdgeTest {
    private static final Due DUE = new Due();
    private static final int[] FAR = {Integer.MIN_VALUE, Integer.MAX_VALUE};

    public static void main(String[] args) {
        sixty();
        sixtyRead();
        noSuchBox();
        twoHundredReadings();
        holdAndPass();
        noSuchReading();
        twoHundredRests();
        restNumbers();
        laterDay();
        benchNought();
        sharing();
        mostShared();
        lowerMiddle();
        firstReading();
        joinedTillThen();
        trueByAll();
        oneAtLeast();
        without();
        leanRefused();
        aboutRefused();
        spread();
        againTwo();
        fallLeast();
        fallRefused();
        leakEdge();
        jumpEdge();
        warmEdge();
        liesRefused();
        longDays();
        meetsNone();
        meetsWithout();
        meetsJoined();
        meetsThen();
        DUE.finish();
    }

    private static DeadPacks cells(String text, int n) {
        DeadPacks x = Due.housed(text);
        for (int c = 0; c < n; c++) {
            x.cell(0);
        }
        return x;
    }

    private static void sixty() {
        DUE.by("CELLS (60); NONE: there are 60");
        DeadPacks x = cells("bench b;box x;", 59);
        DUE.is("59", x.count(2), 59);
        DUE.is("the 60th", x.cell(0), 59);
        DUE.is("the 61st", x.cell(0), -1);
        DUE.is("60", x.count(2), 60);
        DUE.is("the last one is there", x.read(59, 0, 5, 5), 0);
        DUE.is("one more is not", x.read(60, 0, 5, 5), -1);
    }

    private static void sixtyRead() {
        DUE.by("CELLS (60): all of them on several BENCHES");
        DeadPacks x = cells("bench a;bench b;bench c;bench d;bench e;bench f;box x;", 60);
        for (int c = 0; c < 60; c++) {
            x.read(c, 0, 100 + c, 100);
        }
        for (int c = 0; c < 60; c++) {
            x.read(c, 5, 110 + c, 107);
        }
        DUE.is("all alike", x.again(), 0);
        x.read(59, 4, 170, 100);
        x.read(59, 5, 170, 107);
        DUE.is("BENCH 5 by sixty", x.lean(5, 0), 10);
        DUE.is("BENCH 5 by sixty", x.lean(5, 1), 7);
        DUE.is("BENCH 4 by the last one: TRUE (159 + 159 + 160) by 3", x.lean(4, 0), 11);
        DUE.is("BENCH 3 shares none", x.lean(3, 2), 0);
        DUE.is("the last one's SPREAD", x.about(59, 3), 1);
        DUE.is("AGAIN", x.again(), 59);
        DUE.is("no CELL 60", x.lies(60), -1);
        x.rest(59, 0, 4000, 99);
        Due.tape(x, "lies or cell=59").rule();
        DUE.is("the last one MEETS it", x.meets(0), 59);
        DUE.is("alone", x.meets(-1), 1);
    }

    private static void noSuchBox() {
        DUE.by("NONE: no such BOX");
        DeadPacks x = Due.housed("box a;box b;bench c;bench d;bench e;");
        DUE.is("-1", x.cell(-1), -1);
        DUE.is("2", x.cell(2), -1);
        for (int far : FAR) {
            DUE.is("far", x.cell(far), -1);
        }
        DUE.is("none came", x.count(2), 0);
        DUE.is("0", x.cell(0), 0);
        DUE.is("1", x.cell(1), 1);
        DUE.is("its BOX", x.about(1, 0), 1);
        DeadPacks y = Due.housed("box a;box b;box c;box d;box e;box f;box g;box h;");
        DUE.is("7 of 8", y.cell(7), 0);
        DUE.is("8 of 8", y.cell(8), -1);
        DUE.is("an empty HOUSE", new DeadPacks().cell(0), -1);
    }

    private static void twoHundredReadings() {
        DUE.by("READINGS (200); NONE: there are 200");
        DeadPacks x = cells("bench b;box x;", 1);
        for (int i = 0; i < 199; i++) {
            x.read(0, 0, 10, 10);
        }
        DUE.is("the 200th", x.read(0, 0, 400, 10), 199);
        DUE.is("it counts", x.about(0, 1), (199 * 10 + 400) / 200);
        DUE.is("the 201st", x.read(0, 0, 400, 10), -1);
        DUE.is("it does not", x.about(0, 1), (199 * 10 + 400) / 200);
        DUE.is("200", x.count(3), 200);
    }

    private static void holdAndPass() {
        DUE.by("HOLD (1 to 400)");
        DeadPacks x = cells("bench b;box x;", 2);
        DUE.is("0", x.read(0, 0, 0, 5), -1);
        DUE.is("401", x.read(0, 0, 401, 5), -1);
        DUE.is("-1", x.read(0, 0, -1, 5), -1);
        DUE.is("1", x.read(0, 0, 1, 5), 0);
        DUE.is("400", x.read(1, 0, 400, 5), 1);
        DUE.is("TRUE 1", x.about(0, 1), 1);
        DUE.is("TRUE 400", x.about(1, 1), 400);
        DUE.by("PASS (1 to 999)");
        DeadPacks y = cells("bench b;box x;", 2);
        DUE.is("0", y.read(0, 0, 5, 0), -1);
        DUE.is("1000", y.read(0, 0, 5, 1000), -1);
        DUE.is("-1", y.read(0, 0, 5, -1), -1);
        DUE.is("1", y.read(0, 0, 5, 1), 0);
        DUE.is("999", y.read(1, 0, 5, 999), 1);
        DUE.is("FLOW of 1", y.about(0, 4), 1000000);
        DUE.is("FLOW of 999", y.about(1, 4), 1001);
        for (int far : FAR) {
            DUE.is("far", y.read(0, 0, far, 5), -1);
            DUE.is("far", y.read(0, 0, 5, far), -1);
        }
        DUE.is("none of them came", y.count(3), 2);
    }

    private static void noSuchReading() {
        DUE.by("read: NONE: not as told (no such CELL, no such BENCH)");
        DeadPacks x = cells("bench a;bench b;box x;", 2);
        DUE.is("CELL -1", x.read(-1, 0, 5, 5), -1);
        DUE.is("CELL 2", x.read(2, 0, 5, 5), -1);
        DUE.is("BENCH -1", x.read(0, -1, 5, 5), -1);
        DUE.is("BENCH 2", x.read(0, 2, 5, 5), -1);
        for (int far : FAR) {
            DUE.is("far", x.read(far, 0, 5, 5), -1);
            DUE.is("far", x.read(0, far, 5, 5), -1);
        }
        DUE.is("CELL 1, BENCH 1", x.read(1, 1, 5, 5), 0);
        DeadPacks y = cells("bench a;bench b;bench c;bench d;bench e;bench f;box x;", 1);
        DUE.is("BENCH 5 of 6", y.read(0, 5, 5, 5), 0);
        DUE.is("BENCH 6 of 6", y.read(0, 6, 5, 5), -1);
    }

    private static void twoHundredRests() {
        DUE.by("RESTS (200); NONE: there are 200");
        DeadPacks x = cells("box x;", 3);
        for (int i = 0; i < 199; i++) {
            x.rest(i / 100, i % 100, 4000, 0);
        }
        DUE.is("the 200th", x.rest(2, 0, 4000, 0), 199);
        DUE.is("the 201st", x.rest(2, 1, 0, 99), -1);
        DUE.is("it does not count", x.lies(2), 0);
        DUE.is("200", x.count(4), 200);
    }

    private static void restNumbers() {
        DUE.by("a DAY (0 to 99)");
        DeadPacks x = cells("box x;", 4);
        DUE.is("-1", x.rest(0, -1, 5, 5), -1);
        DUE.is("0", x.rest(0, 0, 5, 5), 0);
        DUE.is("100", x.rest(0, 100, 5, 5), -1);
        DUE.is("99", x.rest(0, 99, 5, 5), 1);
        DUE.by("MILLIVOLTS (0 to 4200)");
        DUE.is("-1", x.rest(1, 0, -1, 5), -1);
        DUE.is("0", x.rest(1, 0, 0, 5), 2);
        DUE.is("4201", x.rest(1, 1, 4201, 5), -1);
        DUE.is("4200", x.rest(1, 1, 4200, 5), 3);
        DUE.is("its FALL", x.fall(1, 0), -4200);
        DUE.by("WARM (0 to 99)");
        DUE.is("-1", x.rest(2, 0, 5, -1), -1);
        DUE.is("0", x.rest(2, 0, 5, 0), 4);
        DUE.is("100", x.rest(2, 1, 5, 100), -1);
        DUE.is("99", x.rest(2, 1, 5, 99), 5);
        DUE.by("rest: NONE: not as told");
        DUE.is("CELL -1", x.rest(-1, 0, 5, 5), -1);
        DUE.is("CELL 4", x.rest(4, 0, 5, 5), -1);
        DUE.is("CELL 3", x.rest(3, 0, 5, 5), 6);
        for (int far : FAR) {
            DUE.is("far", x.rest(far, 5, 5, 5), -1);
            DUE.is("far", x.rest(3, far, 5, 5), -1);
            DUE.is("far", x.rest(3, 5, far, 5), -1);
            DUE.is("far", x.rest(3, 5, 5, far), -1);
        }
        DUE.is("none of them came", x.count(4), 7);
    }

    private static void laterDay() {
        DUE.by("later than its latest one");
        DeadPacks x = cells("box x;", 2);
        DUE.is("first", x.rest(0, 50, 5, 5), 0);
        DUE.is("as late", x.rest(0, 50, 5, 5), -1);
        DUE.is("sooner", x.rest(0, 49, 5, 5), -1);
        DUE.is("a day later", x.rest(0, 51, 5, 5), 1);
        DUE.is("between", x.rest(0, 50, 5, 5), -1);
        DUE.is("another CELL has its own", x.rest(1, 0, 5, 5), 2);
        DUE.is("and its own only", x.rest(1, 0, 5, 5), -1);
        DUE.is("a refused one is no latest one", x.rest(0, 99, 9999, 5), -1);
        DUE.is("so 52 is fine", x.rest(0, 52, 5, 5), 3);
    }

    private static void benchNought() {
        DUE.by("JOINED: BENCH 0, with LEANS 0 and 0");
        DeadPacks x = Due.housed("bench a;bench b;box x;");
        int[] due = {0, 0, 1};
        for (int what = 0; what < 3; what++) {
            DUE.is("without READINGS", x.lean(0, what), due[what]);
            DUE.is("BENCH 1", x.lean(1, what), 0);
        }
        x.cell(0);
        x.read(0, 0, 10, 10);
        x.read(0, 1, 30, 50);
        for (int what = 0; what < 3; what++) {
            DUE.is("with READINGS", x.lean(0, what), due[what]);
        }
        int[] then = {20, 40, 1};
        for (int what = 0; what < 3; what++) {
            DUE.is("BENCH 1 then", x.lean(1, what), then[what]);
        }
    }

    private static void sharing() {
        DUE.by("as long as there are some that are not JOINED and share a CELL with one that is");
        DeadPacks x = cells("bench a;bench b;bench c;bench d;box x;", 4);
        x.read(0, 1, 10, 10);
        x.read(1, 0, 10, 10);
        DUE.is("READINGS of other CELLS", x.lean(1, 2), 0);
        DUE.is("LEANS are 0, if not", x.lean(1, 0), 0);
        x.read(2, 1, 10, 10);
        x.read(2, 2, 15, 15);
        DUE.is("shared with one that is not JOINED", x.lean(2, 2), 0);
        DUE.is("LEANS are 0, if not", x.lean(2, 0), 0);
        x.read(0, 0, 7, 8);
        DUE.is("now it shares one", x.lean(1, 2), 1);
        DUE.is("and so does the next", x.lean(2, 2), 1);
        DUE.is("its LEAN", x.lean(1, 0), 3);
        DUE.is("its LEAN", x.lean(1, 1), 2);
        DUE.is("the next one's, by TRUE 10 less 3", x.lean(2, 0), 8);
        DUE.is("the next one's, by TRUE 10 less 2", x.lean(2, 1), 7);
        DUE.is("the last one shares none", x.lean(3, 2), 0);
    }

    private static void mostShared() {
        DUE.by("the one that shares the most CELLS with such ones (of like ones the least)");
        // BENCH 1 shares CELL 0 with 0, BENCH 2 shares 1 and 2 with 0, and both have CELL 3 of their own
        DeadPacks x = cells("bench a;bench b;bench c;box x;", 4);
        for (int c = 0; c < 3; c++) {
            x.read(c, 0, 100, 100);
        }
        x.read(0, 1, 110, 100);
        x.read(1, 2, 130, 100);
        x.read(2, 2, 130, 100);
        x.read(3, 1, 200, 100);
        x.read(3, 2, 200, 100);
        // BENCH 2 first: 30; then BENCH 1 by CELL 0 (10) and CELL 3 (200 less 170): the lower one
        DUE.is("BENCH 2", x.lean(2, 0), 30);
        DUE.is("BENCH 1", x.lean(1, 0), 10);
        DUE.is("TRUE of CELL 3", x.about(3, 1), (170 + 190) / 2);
        // one READING of CELL 1 more on BENCH 1: both share two, BENCH 1 is the first
        x.read(1, 1, 110, 100);
        DUE.is("BENCH 1", x.lean(1, 0), 10);
        // BENCH 2: CELL 1 130 less 100, CELL 2 130 less 100, CELL 3 200 less 190: 10 30 30
        DUE.is("BENCH 2", x.lean(2, 0), 30);
        // CELL 0 read twice on BENCH 1 is one CELL
        DeadPacks y = cells("bench a;bench b;bench c;box x;", 4);
        y.read(0, 0, 100, 100);
        y.read(1, 0, 100, 100);
        y.read(0, 1, 110, 100);
        y.read(0, 1, 110, 100);
        y.read(0, 1, 110, 100);
        y.read(0, 2, 120, 100);
        y.read(1, 2, 140, 100);
        y.read(2, 1, 200, 100);
        y.read(2, 2, 200, 100);
        // BENCH 2 first (20); then BENCH 1: CELL 0 110 less 100, CELL 2 200 less 180
        DUE.is("CELLS, not READINGS", y.lean(2, 0), 20);
        DUE.is("CELLS, not READINGS", y.lean(1, 0), 10);
        DUE.is("TRUE of CELL 2", y.about(2, 1), (180 + 190) / 2);
    }

    private static void lowerMiddle() {
        DUE.by("the lower middle one, in order");
        int[] by = {9, -5, 30, 2, 7};
        int[] due = {9, -5, 9, 2, 7};
        DeadPacks x = cells("bench a;bench b;box x;", 5);
        for (int n = 0; n < 5; n++) {
            x.read(n, 0, 100, 500);
            x.read(n, 1, 100 + by[n], 500 - by[n]);
            DUE.is("of " + (n + 1), x.lean(1, 0), due[n]);
        }
        // in PASS -9 5 -30 -2 -7: the middle one of five is -7
        DUE.is("in PASS", x.lean(1, 1), -7);
    }

    private static void firstReading() {
        DUE.by("the HOLD of its first READING on that BENCH less its TRUE HOLD");
        DeadPacks x = cells("bench a;bench b;box x;", 1);
        x.read(0, 1, 150, 250);
        x.read(0, 1, 10, 10);
        x.read(0, 0, 100, 100);
        x.read(0, 0, 103, 105);
        // TRUE by BENCH 0 alone: 101 and 102
        DUE.is("HOLD", x.lean(1, 0), 49);
        DUE.is("PASS", x.lean(1, 1), 148);
    }

    private static void joinedTillThen() {
        DUE.by("its TRUE HOLD by those JOINED till then");
        DeadPacks x = cells("bench a;bench b;bench c;box x;", 2);
        x.read(0, 0, 100, 100);
        x.read(1, 0, 100, 100);
        x.read(0, 1, 120, 100);
        x.read(1, 1, 180, 100);
        x.read(1, 2, 200, 100);
        // BENCH 1: 20; CELL 1 is then (100 + 160) / 2
        DUE.is("BENCH 1", x.lean(1, 0), 20);
        DUE.is("BENCH 2", x.lean(2, 0), 70);
    }

    private static void trueByAll() {
        DUE.by("each less the LEAN, added, by how many they are, cut towards 0");
        DeadPacks x = cells("bench a;bench b;box x;", 3);
        x.read(0, 0, 10, 10);
        DUE.is("one", x.about(0, 1), 10);
        x.read(0, 0, 11, 12);
        DUE.is("10.5", x.about(0, 1), 10);
        DUE.is("11", x.about(0, 2), 11);
        x.read(0, 0, 12, 13);
        DUE.is("11", x.about(0, 1), 11);
        DUE.is("11.67", x.about(0, 2), 11);
        x.read(1, 1, 400, 999);
        DUE.is("not JOINED", x.about(1, 1), -1);
        x.read(2, 0, 10, 10);
        x.read(2, 1, 20, 30);
        DUE.is("now it is: less 10", x.about(1, 1), 390);
        DUE.is("now it is: less 20", x.about(1, 2), 979);
    }

    private static void oneAtLeast() {
        DUE.by("1 at least");
        DeadPacks x = cells("bench a;bench b;box x;", 4);
        x.read(0, 0, 10, 10);
        x.read(0, 1, 30, 50);
        // LEANS 20 and 40
        int[][] due = {{19, 39, 1, 1}, {20, 40, 1, 1}, {21, 41, 1, 1}, {22, 42, 2, 2}, {1, 1, 1, 1}};
        for (int[] d : due) {
            x.image(0);
            x.read(1, 1, d[0], d[1]);
            DUE.is("TRUE HOLD of " + d[0], x.about(1, 1), d[2]);
            DUE.is("TRUE PASS of " + d[1], x.about(1, 2), d[3]);
            DUE.is("FLOW", x.about(1, 4), 1000000 / d[3]);
            x.restore(0);
        }
    }

    private static void without() {
        DUE.by("None without such READINGS; NONE without: 1 to 3; FLOW 0 without; 5: NONE: none");
        DeadPacks x = cells("bench a;bench b;box x;", 2);
        x.read(1, 1, 5, 5);
        int[] due = {0, -1, -1, -1, 0, -1};
        for (int what = 0; what < 6; what++) {
            DUE.is("no READING: about " + what, x.about(0, what), due[what]);
            DUE.is("on no JOINED BENCH: about " + what, x.about(1, what), due[what]);
        }
        x.read(0, 0, 7, 8);
        x.read(1, 0, 9, 3);
        Due.tape(x, 0, 1).pack(1, 0);
        int[] then = {0, 7, 8, 0, 125000, 0};
        for (int what = 0; what < 6; what++) {
            DUE.is("then: about " + what, x.about(0, what), then[what]);
        }
    }

    private static void leanRefused() {
        DUE.by("lean: NoSuchElementException: no such ones");
        DeadPacks x = Due.housed("bench a;bench b;");
        DUE.is("(1, 2)", x.lean(1, 2), 0);
        DUE.throwsNoSuch("(2, 2)", () -> x.lean(2, 2));
        DUE.throwsNoSuch("(-1, 0)", () -> x.lean(-1, 0));
        DUE.throwsNoSuch("(0, 3)", () -> x.lean(0, 3));
        DUE.throwsNoSuch("(0, -1)", () -> x.lean(0, -1));
        for (int far : FAR) {
            DUE.throwsNoSuch("far", () -> x.lean(far, 0));
            DUE.throwsNoSuch("far", () -> x.lean(0, far));
        }
        DUE.throwsNoSuch("an empty HOUSE", () -> new DeadPacks().lean(0, 0));
    }

    private static void aboutRefused() {
        DUE.by("about: NoSuchElementException: no such ones");
        DeadPacks x = cells("bench a;box x;", 2);
        DUE.is("(1, 5)", x.about(1, 5), -1);
        DUE.throwsNoSuch("(2, 0)", () -> x.about(2, 0));
        DUE.throwsNoSuch("(-1, 0)", () -> x.about(-1, 0));
        DUE.throwsNoSuch("(0, 6)", () -> x.about(0, 6));
        DUE.throwsNoSuch("(0, -1)", () -> x.about(0, -1));
        for (int far : FAR) {
            DUE.throwsNoSuch("far", () -> x.about(far, 0));
            DUE.throwsNoSuch("far", () -> x.about(0, far));
        }
        DUE.throwsNoSuch("an empty HOUSE", () -> new DeadPacks().about(0, 0));
    }

    private static void spread() {
        DUE.by("SPREAD: the greatest of these HOLDS (each less the LEAN) less the least");
        DeadPacks x = cells("bench a;bench b;box x;", 3);
        x.read(0, 0, 10, 10);
        DUE.is("of one", x.about(0, 3), 0);
        x.read(0, 0, 13, 500);
        DUE.is("of two", x.about(0, 3), 3);
        x.read(0, 0, 11, 10);
        DUE.is("between them", x.about(0, 3), 3);
        x.read(0, 0, 8, 10);
        DUE.is("below them", x.about(0, 3), 5);
        // LEAN 50: by CELL 1
        x.read(1, 0, 100, 10);
        x.read(1, 1, 150, 10);
        DUE.is("less the LEAN", x.about(1, 3), 0);
        x.read(2, 1, 1, 10);
        x.read(2, 1, 3, 10);
        DUE.is("even below 1", x.about(2, 3), 2);
    }

    private static void againTwo() {
        DUE.by("AGAIN: of those with two such READINGS and more (of like ones the least); NONE: there is none");
        DeadPacks x = cells("bench a;bench b;box x;", 4);
        DUE.is("no READINGS", x.again(), -1);
        x.read(1, 0, 5, 5);
        x.read(2, 0, 5, 5);
        DUE.is("one each", x.again(), -1);
        x.read(0, 1, 5, 5);
        x.read(0, 1, 50, 5);
        DUE.is("two on no JOINED BENCH", x.again(), -1);
        x.read(2, 0, 5, 5);
        DUE.is("two without a SPREAD", x.again(), 2);
        x.read(1, 0, 5, 5);
        DUE.is("of like ones the least", x.again(), 1);
        x.read(2, 0, 6, 5);
        DUE.is("a greater one", x.again(), 2);
        x.read(1, 0, 6, 5);
        DUE.is("like ones again", x.again(), 1);
        DUE.is("an empty HOUSE", new DeadPacks().again(), -1);
    }

    private static void fallLeast() {
        DUE.by("FALL: of its first REST less those of its last one, by the DAYS between (in least numbers); 1 below (above 0)");
        DeadPacks x = cells("box x;", 5);
        x.rest(0, 0, 4000, 0);
        x.rest(0, 99, 4000, 0);
        DUE.is("nothing", x.fall(0, 0), 0);
        DUE.is("nothing", x.fall(0, 1), 1);
        x.rest(1, 10, 4000, 0);
        x.rest(1, 20, 1000, 0);
        x.rest(1, 16 + 10, 3988, 0);
        DUE.is("12 by 16", x.fall(1, 0), 3);
        DUE.is("12 by 16", x.fall(1, 1), 4);
        x.rest(2, 10, 4000, 0);
        x.rest(2, 16, 4009, 0);
        DUE.is("-9 by 6", x.fall(2, 0), -3);
        DUE.is("-9 by 6", x.fall(2, 1), 2);
        x.rest(3, 0, 4200, 0);
        x.rest(3, 1, 0, 0);
        DUE.is("4200 by 1", x.fall(3, 0), 4200);
        DUE.is("4200 by 1", x.fall(3, 1), 1);
        x.rest(4, 0, 4001, 0);
        x.rest(4, 99, 4000, 0);
        DUE.is("1 by 99", x.fall(4, 0), 1);
        DUE.is("1 by 99", x.fall(4, 1), 99);
    }

    private static void fallRefused() {
        DUE.by("fall: NoSuchElementException: fewer than two RESTS, no such ones");
        DeadPacks x = cells("box x;", 1);
        DUE.throwsNoSuch("no RESTS", () -> x.fall(0, 0));
        x.rest(0, 5, 5, 5);
        DUE.throwsNoSuch("one REST", () -> x.fall(0, 0));
        DUE.throwsNoSuch("one REST", () -> x.fall(0, 1));
        x.rest(0, 6, 5, 5);
        DUE.is("two", x.fall(0, 0), 0);
        DUE.throwsNoSuch("what 2", () -> x.fall(0, 2));
        DUE.throwsNoSuch("what -1", () -> x.fall(0, -1));
        DUE.throwsNoSuch("CELL 1", () -> x.fall(1, 0));
        DUE.throwsNoSuch("CELL -1", () -> x.fall(-1, 0));
        for (int far : FAR) {
            DUE.throwsNoSuch("far", () -> x.fall(far, 0));
            DUE.throwsNoSuch("far", () -> x.fall(0, far));
        }
    }

    /** LIES of a CELL with these RESTS: day, millivolts, warm. */
    private static int lies(String laws, int[]... rests) {
        DeadPacks x = cells("box x;" + laws, 1);
        for (int[] r : rests) {
            x.rest(0, r[0], r[1], r[2]);
        }
        return x.lies(0);
    }

    private static void leakEdge() {
        DUE.by("bit 0: its FALL is above 'leak'");
        String laws = "leak 4;jump 99;warm 99;";
        DUE.is("one REST", lies(laws, new int[] {0, 0, 0}), 0);
        DUE.is("as leak", lies(laws, new int[] {0, 100, 0}, new int[] {3, 88, 0}), 0);
        DUE.is("above it by a third", lies(laws, new int[] {0, 100, 0}, new int[] {3, 87, 0}), 1);
        DUE.is("below it", lies(laws, new int[] {0, 100, 0}, new int[] {3, 89, 0}), 0);
        DUE.is("a rise", lies(laws, new int[] {0, 100, 0}, new int[] {3, 4000, 0}), 0);
        DUE.is("by the last", lies(laws, new int[] {0, 100, 0}, new int[] {3, 87, 0}, new int[] {4, 84, 0}), 0);
        DUE.is("leak 0, no FALL", lies("leak 0;jump 99;", new int[] {0, 100, 0}, new int[] {99, 100, 0}), 0);
        DUE.is("leak 0, the least FALL", lies("leak 0;jump 99;", new int[] {0, 100, 0}, new int[] {99, 99, 0}), 1);
        DUE.is("leak 99", lies("leak 99;jump 99;", new int[] {0, 4200, 0}, new int[] {1, 4101, 0}), 0);
        DUE.is("leak 99", lies("leak 99;jump 99;", new int[] {0, 4200, 0}, new int[] {1, 4100, 0}), 3);
    }

    private static void jumpEdge() {
        DUE.by("bit 1: from one REST to the next one it fell by more than 'jump' for each DAY between");
        String laws = "leak 99;jump 7;warm 99;";
        DUE.is("as jump", lies(laws, new int[] {0, 100, 0}, new int[] {3, 79, 0}), 0);
        DUE.is("more", lies(laws, new int[] {0, 100, 0}, new int[] {3, 78, 0}), 2);
        DUE.is("later ones too", lies(laws, new int[] {0, 100, 0}, new int[] {1, 100, 0}, new int[] {2, 92, 0}), 2);
        DUE.is("later ones too", lies(laws, new int[] {0, 100, 0}, new int[] {1, 100, 0}, new int[] {2, 93, 0}), 0);
        DUE.is("it is kept", lies(laws, new int[] {0, 100, 0}, new int[] {1, 92, 0}, new int[] {2, 4000, 0}), 2);
        DUE.is("to the next, not over two",
                lies(laws, new int[] {0, 100, 0}, new int[] {1, 93, 0}, new int[] {2, 86, 0}), 0);
        DUE.is("jump 0", lies("leak 99;jump 0;", new int[] {0, 100, 0}, new int[] {1, 100, 0}), 0);
        DUE.is("jump 0", lies("leak 99;jump 0;", new int[] {0, 100, 0}, new int[] {99, 99, 0}), 2);
    }

    private static void warmEdge() {
        DUE.by("bit 2: WARM was 'warm' and more in one");
        String laws = "leak 99;jump 99;warm 33;";
        DUE.is("below", lies(laws, new int[] {0, 100, 32}), 0);
        DUE.is("as warm", lies(laws, new int[] {0, 100, 33}), 4);
        DUE.is("more", lies(laws, new int[] {0, 100, 34}), 4);
        DUE.is("in the first", lies(laws, new int[] {0, 100, 33}, new int[] {1, 100, 0}), 4);
        DUE.is("in the last", lies(laws, new int[] {0, 100, 32}, new int[] {1, 100, 33}), 4);
        DUE.is("warm 0", lies("warm 0;", new int[] {0, 100, 0}), 4);
        DUE.is("warm 99", lies("warm 99;", new int[] {0, 100, 98}), 0);
        DUE.is("warm 99", lies("warm 99;", new int[] {0, 100, 99}), 4);
    }

    private static void liesRefused() {
        DUE.by("lies: 0 without RESTS; NONE: no such CELL");
        DeadPacks x = cells("box x;warm 0;", 2);
        DUE.is("0", x.lies(0), 0);
        DUE.is("1", x.lies(1), 0);
        DUE.is("2", x.lies(2), -1);
        DUE.is("-1", x.lies(-1), -1);
        for (int far : FAR) {
            DUE.is("far", x.lies(far), -1);
        }
        DUE.is("an empty HOUSE", new DeadPacks().lies(0), -1);
    }

    private static void longDays() {
        DUE.by("LONG: the fewest DAYS d (1 at least) in which a FALL of r a DAY is more than twice the noise");
        DeadPacks x = Due.housed("noise 10;");
        int[][] due = {{1, 21}, {4, 6}, {5, 5}, {6, 4}, {19, 2}, {20, 2}, {21, 1}, {99, 1}};
        for (int[] d : due) {
            DUE.is("days(" + d[0] + ")", x.days(d[0]), d[1]);
        }
        DUE.is("1 at least", Due.housed("noise 0;").days(1), 1);
        DUE.is("1 at least", Due.housed("noise 0;").days(99), 1);
        DUE.is("the most", Due.housed("noise 99;").days(1), 199);
        DUE.is("198 by 99", Due.housed("noise 99;").days(99), 3);
        DUE.by("LONG for r (1 to 99); NONE: not as told");
        DUE.is("0", x.days(0), -1);
        DUE.is("-1", x.days(-1), -1);
        DUE.is("100", x.days(100), -1);
        for (int far : FAR) {
            DUE.is("far", x.days(far), -1);
        }
    }

    private static void meetsNone() {
        DUE.by("meets: NONE: there is no RULE, none such, another k");
        DeadPacks x = cells("box x;", 4);
        DUE.is("no RULE", x.meets(-1), -1);
        DUE.is("no RULE", x.meets(0), -1);
        Due.tape(x, "?").rule();
        DUE.is("still none", x.meets(-1), -1);
        Due.tape(x, "cell>1").rule();
        DUE.is("how many", x.meets(-1), 2);
        DUE.is("the first", x.meets(0), 2);
        DUE.is("the second", x.meets(1), 3);
        DUE.is("none such", x.meets(2), -1);
        DUE.is("another k", x.meets(-2), -1);
        for (int far : FAR) {
            DUE.is("far", x.meets(far), -1);
        }
        Due.tape(x, "used").rule();
        DUE.is("no CELL MEETS it", x.meets(-1), 0);
        DUE.is("none such", x.meets(0), -1);
        DeadPacks y = new DeadPacks();
        Due.tape(y, "not used").rule();
        DUE.is("no CELLS", y.meets(-1), 0);
        DUE.is("no CELLS", y.meets(0), -1);
        DeadPacks z = cells("box x;", 60);
        Due.tape(z, "not used").rule();
        DUE.is("all of sixty", z.meets(-1), 60);
        DUE.is("the last of sixty", z.meets(59), 59);
        DUE.is("behind it", z.meets(60), -1);
    }

    private static int met(DeadPacks x, String rule) {
        Due.tape(x, rule).rule();
        return x.meets(-1);
    }

    private static void meetsWithout() {
        DUE.by("TRUE ones; not so without; its number");
        DeadPacks x = cells("bench a;bench b;box x;", 2);
        x.read(1, 1, 5, 5);
        for (String word : "hold pass spread".split(" ")) {
            for (String sign : "< = >".split(" ")) {
                for (String number : "0 1 999".split(" ")) {
                    DUE.is(word + sign + number, met(x, word + sign + number), 0);
                    DUE.is("not " + word + sign + number, met(x, "not " + word + sign + number), 2);
                }
            }
        }
        x.read(0, 0, 50, 60);
        x.read(0, 0, 50, 60);
        String[] so = {"hold<51", "hold=50", "hold>49", "pass<61", "pass=60", "pass>59", "spread<1", "spread=0"};
        String[] notSo = {"hold<50", "hold=49", "hold=51", "hold>50", "pass<60", "pass=59", "pass=61", "pass>60",
            "spread<0", "spread=1", "spread>0"};
        for (String rule : so) {
            DUE.is(rule, met(x, rule), 1);
        }
        for (String rule : notSo) {
            DUE.is(rule, met(x, rule), 0);
        }
        DUE.is("cell<1", met(x, "cell<1"), 1);
        DUE.is("cell<0", met(x, "cell<0"), 0);
        DUE.is("cell=1", met(x, "cell=1"), 1);
        DUE.is("cell=2", met(x, "cell=2"), 0);
        DUE.is("cell>0", met(x, "cell>0"), 1);
        DUE.is("cell>1", met(x, "cell>1"), 0);
        // above what a NUMBER can tell: TRUE HOLD 1198, PASS 2995, by two leaning benches
        DeadPacks y = cells("bench a;bench b;bench c;box x;", 3);
        y.read(0, 0, 400, 999);
        y.read(0, 1, 1, 1);
        y.read(1, 1, 400, 999);
        y.read(1, 2, 1, 1);
        y.read(2, 2, 400, 999);
        DUE.is("HOLD", y.about(2, 1), 400 + 399 + 399);
        DUE.is("PASS", y.about(2, 2), 999 + 998 + 998);
        DUE.is("FLOW", y.about(2, 4), 1000000 / 2995);
        DUE.is("hold>999", met(y, "hold>999"), 1);
        DUE.is("pass>999", met(y, "pass>999"), 2);
    }

    /** Which of CELLS 0 to 7 MEET it, as bits. */
    private static int bits(DeadPacks x, String rule) {
        Due.tape(x, rule).rule();
        int bits = 0;
        for (int k = 0; x.meets(k) >= 0; k++) {
            bits |= 1 << x.meets(k);
        }
        return bits;
    }

    private static void meetsJoined() {
        DUE.by("ALL { 'or' ALL }, ONE { 'and' ONE }, 'not' ONE, ( COND )");
        // CELL c is in x if bit 0 of it is set, lies if bit 1 is, holds 9 if bit 2 is
        DeadPacks x = Due.housed("bench b;box y;box x;");
        for (int c = 0; c < 8; c++) {
            x.cell(c & 1);
            x.rest(c, 0, 4000, (c & 2) != 0 ? 99 : 0);
            x.read(c, 0, (c & 4) != 0 ? 9 : 5, 50);
        }
        int a = 0b10101010;
        int b = 0b11001100;
        int c = 0b11110000;
        String[] rules = {"in x", "lies", "hold=9", "in x or lies", "in x and lies", "in x or lies and hold=9",
            "in x and lies or hold=9", "(in x or lies) and hold=9", "in x and (lies or hold=9)", "not in x or lies",
            "not (in x or lies)", "not in x and lies", "not (in x and lies)", "not not in x", "in x or lies or hold=9",
            "in x and lies and hold=9", "not in x and not lies and not hold=9", "in x or not (lies and not hold=9)"};
        int[] due = {a, b, c, a | b, a & b, a | b & c, a & b | c, (a | b) & c, a & (b | c), ~a | b, ~(a | b), ~a & b, ~(a & b),
            a, a | b | c, a & b & c, ~a & ~b & ~c, a | ~(b & ~c)};
        for (int i = 0; i < rules.length; i++) {
            DUE.is(rules[i], bits(x, rules[i]), due[i] & 255);
        }
    }

    private static void meetsThen() {
        DUE.by("CELLS MEET it as they are then");
        DeadPacks x = cells("bench a;box x;box y;", 2);
        Due.tape(x, "in x and not lies and not used and hold>10").rule();
        DUE.is("none is TRUE", x.meets(-1), 0);
        x.read(0, 0, 11, 5);
        x.read(1, 0, 11, 5);
        DUE.is("two", x.meets(-1), 2);
        x.cell(1);
        x.read(2, 0, 11, 5);
        DUE.is("of another BOX", x.meets(-1), 2);
        x.rest(0, 0, 5, 40);
        DUE.is("one lies", x.meets(-1), 1);
        Due.tape(x, 1, 2).pack(1, 0);
        DUE.is("one is used", x.meets(-1), 0);
        x.cell(0);
        x.read(3, 0, 12, 5);
        DUE.is("a new one", x.meets(0), 3);
        x.mend(0, 1, 3, 0);
        DUE.is("exchanged", x.meets(0), 1);
        x.read(1, 0, 1, 5);
        DUE.is("less TRUE HOLD", x.meets(-1), 0);
    }
}
