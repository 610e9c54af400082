import java.util.Arrays;

/** Section 4: the edges of PACKS, each sentence by itself (promises 26 to 37). */
public final class PackEdgeTest {
    private static final Due DUE = new Due();
    private static final int[] FAR = {Integer.MIN_VALUE, Integer.MAX_VALUE};

    public static void main(String[] args) {
        tenPacks();
        packMany();
        packRows();
        packDays();
        packCells();
        rowRefused();
        inPackRefused();
        lifeRefused();
        fadeCut();
        cyclesFloor();
        cyclesMost();
        cyclesLast();
        lifeFirstRow();
        mendDays();
        mendCells();
        thirty();
        bestSpares();
        bestRefused();
        bestFirst();
        bestNotDone();
        bestByLatest();
        balanceHundredths();
        balanceRefused();
        hoursCutUp();
        lostAll();
        lostLatest();
        shortedFuse();
        shortedOwn();
        shortedRefused();
        heldDays();
        heldOthers();
        heldEver();
        heldThirty();
        heldRefused();
        DUE.finish();
    }

    private static DeadPacks alike(int n) {
        return Due.holding(Due.alike(150, n), Due.alike(50, n));
    }

    private static void tenPacks() {
        DUE.by("PACKS (10); NONE: there are 10");
        DeadPacks x = alike(22);
        for (int p = 0; p < 9; p++) {
            Due.tape(x, 2 * p, 2 * p + 1).pack(1, 0);
        }
        DUE.is("the tenth", Due.tape(x, 18, 19).pack(1, 0), 9);
        DUE.is("the eleventh", Due.tape(x, 20, 21).pack(1, 0), -1);
        DUE.is("the tape is empty then", x.count(8), 0);
        DUE.is("10", x.count(5), 10);
        DUE.is("its CELLS are free", x.about(20, 5), -1);
        DUE.is("the tenth is there", x.life(9) > 0, true);
        DUE.is("one more is not", x.life(10), -1);
        DUE.is("the tenth is bit 9", x.held(0, 0), 1023);
    }

    private static void packMany() {
        DUE.by("CELLS (2 to 40)");
        DeadPacks x = alike(60);
        DUE.is("0", Due.tape(x).pack(1, 0), -1);
        DUE.is("1", Due.tape(x, 0).pack(1, 0), -1);
        DUE.is("41", Due.tape(x, Due.from(0, 41)).pack(1, 0), -1);
        DUE.is("none", x.count(5), 0);
        DUE.is("2", Due.tape(x, 58, 59).pack(1, 0), 0);
        DUE.is("40", Due.tape(x, Due.from(0, 40)).pack(1, 0), 1);
        DUE.is("the last of 40", x.inPack(1, 39), 39);
        DUE.is("HOLD of 40", x.row(1, 0, 0), 6000);
    }

    private static void packRows() {
        DUE.by("in S ROWS of as many each");
        DeadPacks x = alike(40);
        x.image(0);
        for (int s = -1; s <= 41; s++) {
            boolean good = s >= 1 && s <= 40 && 40 % s == 0;
            DUE.is("40 in " + s, Due.tape(x, Due.from(0, 40)).pack(s, 0), good ? 0 : -1);
            DUE.is("the tape is empty then", x.count(8), 0);
            if (good) {
                DUE.is("HOLD of the last ROW of " + s, x.row(0, s - 1, 0), 6000 / s);
            }
            x.restore(0);
        }
        for (int far : FAR) {
            DUE.is("far", Due.tape(x, 0, 1).pack(far, 0), -1);
        }
    }

    private static void packDays() {
        DUE.by("made on a DAY (0 to 999)");
        DeadPacks x = alike(4);
        DUE.is("-1", Due.tape(x, 0, 1).pack(1, -1), -1);
        DUE.is("1000", Due.tape(x, 0, 1).pack(1, 1000), -1);
        for (int far : FAR) {
            DUE.is("far", Due.tape(x, 0, 1).pack(1, far), -1);
        }
        DUE.is("0", Due.tape(x, 0, 1).pack(1, 0), 0);
        DUE.is("999", Due.tape(x, 2, 3).pack(1, 999), 1);
        DUE.is("held on 998", x.held(0, 998), 1);
        DUE.is("held on 999", x.held(0, 999), 3);
    }

    private static void packCells() {
        DUE.by("each has a TRUE HOLD and is in no other PACK");
        DeadPacks x = Due.holding("bench a;bench b;box x;", Due.alike(5, 5), Due.alike(5, 5));
        x.cell(0);
        x.read(5, 1, 5, 5);
        DUE.is("not TRUE", Due.tape(x, 0, 5).pack(1, 0), -1);
        DUE.is("no CELL", Due.tape(x, 0, 6).pack(1, 0), -1);
        DUE.is("no CELL", Due.tape(x, 0, 255).pack(1, 0), -1);
        DUE.is("twice", Due.tape(x, 0, 0).pack(1, 0), -1);
        DUE.is("good", Due.tape(x, 0, 1).pack(1, 0), 0);
        DUE.is("in another one", Due.tape(x, 2, 1).pack(1, 0), -1);
        DUE.is("none of them is in one", x.about(2, 5), -1);
        DUE.is("free ones", Due.tape(x, 2, 3).pack(1, 0), 1);
        x.mend(0, 0, 4, 0);
        x.read(5, 0, 5, 5);
        DUE.is("free again, and TRUE now", Due.tape(x, 0, 5).pack(1, 0), 2);
    }

    private static void rowRefused() {
        DUE.by("row: NoSuchElementException: no such ones");
        DeadPacks x = alike(8);
        DUE.throwsNoSuch("no PACKS", () -> x.row(0, 0, 0));
        Due.tape(x, 0, 1, 2, 3, 4, 5).pack(3, 0);
        DUE.is("ROW 0", x.row(0, 0, 0), 300);
        DUE.is("ROW 2, FLOW", x.row(0, 2, 1), 40000);
        DUE.is("ROW 2, CYCLES", x.row(0, 2, 2) > 0, true);
        DUE.throwsNoSuch("ROW 3", () -> x.row(0, 3, 0));
        DUE.throwsNoSuch("ROW -1", () -> x.row(0, -1, 0));
        DUE.throwsNoSuch("PACK 1", () -> x.row(1, 0, 0));
        DUE.throwsNoSuch("PACK -1", () -> x.row(-1, 0, 0));
        DUE.throwsNoSuch("what 3", () -> x.row(0, 0, 3));
        DUE.throwsNoSuch("what -1", () -> x.row(0, 0, -1));
        for (int far : FAR) {
            DUE.throwsNoSuch("far", () -> x.row(far, 0, 0));
            DUE.throwsNoSuch("far", () -> x.row(0, far, 0));
            DUE.throwsNoSuch("far", () -> x.row(0, 0, far));
        }
    }

    private static void inPackRefused() {
        DUE.by("inPack: NONE: no such ones");
        DeadPacks x = alike(8);
        DUE.is("no PACKS", x.inPack(0, 0), -1);
        Due.tape(x, 7, 5, 3, 1).pack(2, 0);
        DUE.is("place 0", x.inPack(0, 0), 7);
        DUE.is("place 3", x.inPack(0, 3), 1);
        DUE.is("place 4", x.inPack(0, 4), -1);
        DUE.is("place -1", x.inPack(0, -1), -1);
        DUE.is("PACK 1", x.inPack(1, 0), -1);
        DUE.is("PACK -1", x.inPack(-1, 0), -1);
        for (int far : FAR) {
            DUE.is("far", x.inPack(far, 0), -1);
            DUE.is("far", x.inPack(0, far), -1);
        }
        Due.tape(x, 0, 2).pack(1, 0);
        DUE.is("PACK 1 is there now", x.inPack(1, 1), 2);
        DUE.is("and has two", x.inPack(1, 2), -1);
    }

    private static void lifeRefused() {
        DUE.by("life, ends: NONE: no such one");
        DeadPacks x = alike(2);
        DUE.is("life of no PACK", x.life(0), -1);
        DUE.is("ends of no PACK", x.ends(0), -1);
        Due.tape(x, 0, 1).pack(2, 0);
        DUE.is("life", x.life(0) > 0, true);
        DUE.is("ends", x.ends(0), 0);
        for (int p : new int[] {-1, 1, 10, Integer.MIN_VALUE, Integer.MAX_VALUE}) {
            DUE.is("life", x.life(p), -1);
            DUE.is("ends", x.ends(p), -1);
        }
    }

    /** CYCLES of a ROW of one CELL. */
    private static int cycles(String laws, int hold, int pass) {
        DeadPacks x = Due.holding("bench b;box x;" + laws, new int[] {hold, hold}, new int[] {pass, pass});
        Due.tape(x, 0, 1).pack(2, 0);
        return x.row(0, 1, 2);
    }

    /** The least n, counted up. */
    private static int counted(int a, int b, int floor, int hold, int flow) {
        long fade = 10L * a + (long) b * (1000000 / flow) / 10;
        for (int n = 0; n < 100000; n++) {
            if (hold * (1000000 - n * fade) < floor * 1000000L) {
                return n;
            }
        }
        return 100000;
    }

    private static void fadeCut() {
        DUE.by("FADE of a ROW: R, 1000000 by its FLOW, cut; 10 A and B times R by 10, cut, added");
        // PASS 9: FLOW 111111, R 9 (9.00001); PASS 7: FLOW 142857, R 7; PASS 999: FLOW 1001, R 999 (999.000999)
        for (int pass : new int[] {1, 3, 7, 9, 10, 11, 19, 20, 998, 999}) {
            for (int a : new int[] {0, 1, 99}) {
                for (int b : new int[] {0, 1, 7, 99}) {
                    DUE.is("fade " + a + " " + b + ", PASS " + pass, cycles("fade " + a + " " + b + ";", 300, pass),
                            counted(a, b, 100, 300, 1000000 / pass));
                }
            }
        }
        // two in a ROW: FLOWS 333333 and 142857 are 476190, R 2.1 cut
        DeadPacks x = Due.holding("bench b;box x;fade 0 99;", new int[] {200, 100}, new int[] {3, 7});
        Due.tape(x, 0, 1).pack(1, 0);
        DUE.is("FLOW", x.row(0, 0, 1), 476190);
        DUE.is("CYCLES", x.row(0, 0, 2), counted(0, 99, 100, 300, 476190));
        // FLOW 2000000: R is 0
        DeadPacks y = Due.holding("bench b;box x;fade 0 99;", new int[] {200, 100}, new int[] {1, 1});
        Due.tape(y, 0, 1).pack(1, 0);
        DUE.is("R 0: no FADE", y.row(0, 0, 2), 100000);
    }

    private static void cyclesFloor() {
        DUE.by("CYCLES: the least n with HOLD times (1000000 less n FADE) below 'floor' times 1000000");
        DUE.is("HOLD below the floor", cycles("floor 200;", 199, 50), 0);
        DUE.is("HOLD as the floor", cycles("floor 200;", 200, 50), 1);
        DUE.is("HOLD above the floor", cycles("floor 200;", 201, 50), counted(2, 1, 200, 201, 20000));
        // FADE 1000: 400 is 200 after 500, below it after 501
        DUE.is("as the floor after 500", cycles("fade 99 10;floor 200;", 400, 10), 501);
        DUE.is("floor 201", cycles("fade 99 10;floor 201;", 400, 10), 498);
        DUE.is("floor 1", cycles("fade 99 10;floor 1;", 1, 10), 1);
        DUE.is("HOLD 1, FADE 1, floor 1", cycles("fade 0 1;floor 1;", 1, 10), 1);
        DUE.is("HOLD 1, FADE 0, floor 1", cycles("fade 0 0;floor 1;", 1, 10), 100000);
        DUE.is("HOLD 1, FADE 0, floor 2", cycles("fade 0 0;floor 2;", 1, 10), 0);
        DUE.is("floor 999", cycles("floor 999;", 400, 10), 0);
        DeadPacks x = Due.holding("bench b;box x;floor 999;", new int[] {400, 400, 199, 1}, Due.alike(10, 4));
        Due.tape(x, 0, 1, 2).pack(1, 0);
        DUE.is("three make 999", x.row(0, 0, 2), 1);
    }

    private static void cyclesMost() {
        DUE.by("(0 to 100000; that, if there is none less)");
        DUE.is("no FADE", cycles("fade 0 0;", 100, 50), 100000);
        DUE.is("no FADE, below the floor", cycles("fade 0 0;", 99, 50), 0);
        // FADE 5: (h - f) / h of 200000: 99999 when half is just not reached
        DUE.is("half: 100001 would be the least", cycles("fade 0 1;floor 200;", 400, 50), 100000);
        DUE.is("301 of 600", twoCycles("fade 0 1;floor 301;", 300, 100), counted(0, 1, 301, 600, 20000));
        DUE.is("99668", twoCycles("fade 0 1;floor 301;", 300, 100), 99667);
        // FADE 10 by one percent of 100000: floor 1 of 400 is 99750
        DUE.is("99751", cycles("fade 1 0;floor 1;", 400, 50), 99751);
        // the least floor, FADE 10: a HOLD of 2000 and less never comes to 100000
        DUE.is("FADE 9: 100000", cycles("fade 0 9;floor 1;", 400, 10), 100000);
        DUE.is("FADE 9: below", cycles("fade 0 9;floor 99;", 400, 10), counted(0, 9, 99, 400, 100000));
    }

    /** Two ROWS of twenty CELLS, FADE 9, floor 800: HOLD 8000 would last 100001, HOLD 7999 lasts 99999. */
    private static void cyclesLast() {
        DUE.by("100000; that, if there is none less: 99999 is less");
        int[] holds = Due.alike(400, 40);
        holds[39] = 399;
        DeadPacks x = Due.holding("bench b;box x;fade 0 45;floor 800;", holds, Due.alike(50, 40));
        Due.tape(x, Due.from(0, 40)).pack(2, 0);
        DUE.is("HOLD 8000", x.row(0, 0, 2), 100000);
        DUE.is("HOLD 7999", x.row(0, 1, 2), 99999);
        DUE.is("counted", counted(0, 45, 800, 7999, 400000), 99999);
        DUE.is("LIFE", x.life(0), 99999);
        DUE.is("the ROW that ends it", x.ends(0), 1);
        x.cell(0);
        x.read(40, 0, 400, 50);
        DUE.is("a spare one of 400", Due.tape(x, 40).bestMend(0), 100000);
        DUE.is("for that of 399", x.bestBy(0), 39);
        x.mend(0, 39, 40, 0);
        DUE.is("LIFE then", x.life(0), 100000);
        DUE.is("of like ones the first", x.ends(0), 0);
    }

    /** CYCLES of a ROW of two like CELLS. */
    private static int twoCycles(String laws, int hold, int pass) {
        DeadPacks x = Due.holding("bench b;box x;" + laws, new int[] {hold, hold}, new int[] {pass, pass});
        Due.tape(x, 0, 1).pack(1, 0);
        return x.row(0, 0, 2);
    }

    private static void lifeFirstRow() {
        DUE.by("LIFE of a PACK: the least CYCLES, of the first such ROW");
        DeadPacks x = Due.holding(new int[] {200, 150, 150, 99, 98, 300}, Due.alike(50, 6));
        x.image(0);
        Due.tape(x, 0, 1, 2).pack(3, 0);
        DUE.is("of like ones the first", x.ends(0), 1);
        DUE.is("LIFE", x.life(0), x.row(0, 2, 2));
        x.restore(0);
        Due.tape(x, 0, 3, 4).pack(3, 0);
        DUE.is("0 is the least there is: the first", x.ends(0), 1);
        DUE.is("LIFE", x.life(0), 0);
        x.restore(0);
        Due.tape(x, 4, 0, 1).pack(3, 0);
        DUE.is("the first", x.ends(0), 0);
        x.restore(0);
        Due.tape(x, 5, 0, 1).pack(3, 0);
        DUE.is("the last", x.ends(0), 2);
        DeadPacks y = Due.holding("bench b;box x;fade 0 0;", Due.alike(200, 3), Due.alike(50, 3));
        Due.tape(y, 0, 1, 2).pack(3, 0);
        DUE.is("all 100000", y.life(0), 100000);
        DUE.is("the first", y.ends(0), 0);
    }

    private static void mendDays() {
        DUE.by("MENDED on a DAY, no sooner than what was done to that PACK last");
        DeadPacks x = alike(6);
        Due.tape(x, 0, 1).pack(1, 10);
        Due.tape(x, 2, 3).pack(1, 0);
        DUE.is("a day sooner than it was made", x.mend(0, 0, 4, 9), false);
        DUE.is("the same day", x.mend(0, 0, 4, 10), true);
        DUE.is("later", x.mend(0, 4, 0, 20), true);
        DUE.is("sooner than that", x.mend(0, 0, 4, 19), false);
        DUE.is("refused ones count as nothing done", x.mend(0, 0, 1, 500), false);
        DUE.is("the same day", x.mend(0, 0, 4, 20), true);
        DUE.is("another PACK has its own days", x.mend(1, 2, 5, 0), true);
        DUE.is("-1", x.mend(1, 5, 2, -1), false);
        DUE.is("1000", x.mend(1, 5, 2, 1000), false);
        for (int far : FAR) {
            DUE.is("far", x.mend(1, 5, 2, far), false);
        }
        DUE.is("999", x.mend(1, 5, 2, 999), true);
        DUE.is("999 again", x.mend(1, 2, 5, 999), true);
        DUE.is("998", x.mend(1, 5, 2, 998), false);
    }

    private static void mendCells() {
        DUE.by("one CELL of it goes out, another one (TRUE, in no PACK) takes its place; false: not as told");
        DeadPacks x = Due.holding("bench a;bench b;box x;", Due.alike(50, 6), Due.alike(50, 6));
        x.cell(0);
        x.read(6, 1, 5, 5);
        Due.tape(x, 0, 1).pack(1, 0);
        Due.tape(x, 2, 3).pack(1, 0);
        int[][] wrong = {{2, 0, 4}, {-1, 0, 4}, {0, 2, 4}, {0, 4, 5}, {0, -1, 4}, {0, 7, 4}, {0, 0, 0}, {0, 0, 1}, {0, 0, 2},
            {0, 0, 6}, {0, 0, 7}, {0, 0, -1}, {0, 60, 4}, {0, 0, 60}, {Integer.MAX_VALUE, 0, 4}, {0, Integer.MAX_VALUE, 4},
            {0, 0, Integer.MAX_VALUE}, {Integer.MIN_VALUE, 0, 4}, {0, Integer.MIN_VALUE, 4}, {0, 0, Integer.MIN_VALUE}};
        for (int[] w : wrong) {
            DUE.is("mend" + Arrays.toString(w), x.mend(w[0], w[1], w[2], 5), false);
        }
        DUE.is("none", x.count(6), 0);
        DUE.is("as it was", x.inPack(0, 0), 0);
        DUE.is("good", x.mend(0, 1, 4, 5), true);
        DUE.is("its place", x.inPack(0, 1), 4);
        DUE.is("out", x.about(1, 5), -1);
        DUE.is("in", x.about(4, 5), 0);
        DUE.is("what is out can't go out", x.mend(0, 1, 5, 5), false);
        DUE.is("it may come again", x.mend(1, 2, 1, 5), true);
        x.read(6, 0, 5, 5);
        DUE.is("TRUE now", x.mend(1, 1, 6, 5), true);
    }

    private static void thirty() {
        DUE.by("MENDED (30 times in all); false: 30 were");
        DeadPacks x = alike(6);
        Due.tape(x, 0, 1).pack(1, 0);
        Due.tape(x, 2, 3).pack(1, 0);
        for (int i = 0; i < 15; i++) {
            DUE.is("one of 15", x.mend(0, i % 2 == 0 ? 0 : 4, i % 2 == 0 ? 4 : 0, i), true);
        }
        for (int i = 0; i < 14; i++) {
            DUE.is("one of 14", x.mend(1, i % 2 == 0 ? 2 : 5, i % 2 == 0 ? 5 : 2, i), true);
        }
        DUE.is("29", x.count(6), 29);
        x.image(0);
        DUE.is("the 30th", x.mend(1, 2, 5, 100), true);
        DUE.is("30", x.count(6), 30);
        DUE.is("the 31st", x.mend(1, 5, 2, 100), false);
        DUE.is("the 31st, of the other PACK", x.mend(0, 4, 0, 100), false);
        DUE.is("30", x.count(6), 30);
        DUE.is("nothing was done", x.inPack(0, 0), 4);
        DUE.is("a BEST MEND is told even so", Due.tape(x, 0).bestMend(0), x.life(0));
        x.restore(0);
        DUE.is("29 again", x.count(6), 29);
        DUE.is("the 30th again", x.mend(0, 4, 0, 100), true);
        DUE.is("the 31st again", x.mend(0, 0, 4, 100), false);
    }

    private static void bestSpares() {
        DUE.by("BEST MEND by some spare CELLS (1 to 10, unlike, TRUE, in no PACK)");
        DeadPacks x = Due.holding("bench a;bench b;box x;", Due.alike(150, 14), Due.alike(50, 14));
        x.cell(0);
        x.read(14, 1, 5, 5);
        Due.tape(x, 0, 1).pack(2, 0);
        DUE.is("0", Due.tape(x).bestMend(0), -1);
        DUE.is("1", Due.tape(x, 2).bestMend(0), x.life(0));
        DUE.is("10", Due.tape(x, Due.from(2, 10)).bestMend(0), x.life(0));
        DUE.is("11", Due.tape(x, Due.from(2, 11)).bestMend(0), -1);
        DUE.is("twice", Due.tape(x, 2, 3, 2).bestMend(0), -1);
        DUE.is("not TRUE", Due.tape(x, 2, 14).bestMend(0), -1);
        DUE.is("no CELL", Due.tape(x, 2, 15).bestMend(0), -1);
        DUE.is("in that PACK", Due.tape(x, 2, 1).bestMend(0), -1);
        DUE.is("the tape is empty then", x.count(8), 0);
        Due.tape(x, 12, 13).pack(1, 0);
        DUE.is("in another PACK", Due.tape(x, 2, 13).bestMend(0), -1);
        DUE.is("free ones", Due.tape(x, 2, 11).bestMend(0), x.life(0));
        DUE.is("the tape is empty then", x.count(8), 0);
        DUE.by("BEST MEND of a PACK of 40 CELLS in as many ROWS, the last of 10");
        DeadPacks y = Due.holding(Due.from(101, 50), Due.alike(50, 50));
        for (int p = 0; p < 5; p++) {
            Due.tape(y, 2 * p, 2 * p + 1).pack(1, 0);
            DUE.is("one by one", Due.tape(y, 49).bestMend(p) >= y.life(p), true);
        }
        int[] forty = Due.from(10, 40);
        forty[0] = 49;
        forty[39] = 10;
        y.cell(0);
        y.read(50, 0, 200, 50);
        Due.tape(y, forty).pack(40, 0);
        DUE.is("ends", y.ends(5), 39);
        DUE.is("by the one of 200", Due.tape(y, 50).bestMend(5), y.row(5, 1, 2));
        DUE.is("for the last", y.bestBy(0), 10);
    }

    private static void bestRefused() {
        DUE.by("bestMend: NONE: not as told");
        DeadPacks x = alike(4);
        DUE.is("no PACKS", Due.tape(x, 2).bestMend(0), -1);
        Due.tape(x, 0, 1).pack(2, 0);
        for (int p : new int[] {-1, 1, 10, Integer.MIN_VALUE, Integer.MAX_VALUE}) {
            DUE.is("PACK " + p, Due.tape(x, 2).bestMend(p), -1);
            DUE.is("the tape is empty then", x.count(8), 0);
        }
        DUE.is("PACK 0", Due.tape(x, 2).bestMend(0), x.life(0));
    }

    private static void bestFirst() {
        DUE.by("with which its LIFE is greatest (of like ones the first place, then the first spare one as told)");
        DeadPacks x = Due.holding(new int[] {150, 150, 150, 200, 200, 120}, Due.alike(50, 6));
        Due.tape(x, 1, 0).pack(2, 0);
        int life = x.life(0);
        DUE.is("both ROWS alike, no better", Due.tape(x, 4, 3).bestMend(0), life);
        DUE.is("first place", x.bestBy(0), 1);
        DUE.is("first spare", x.bestBy(1), 4);
        DUE.is("the worst is left aside", Due.tape(x, 5, 2).bestMend(0), life);
        DUE.is("first place", x.bestBy(0), 1);
        DUE.is("second spare", x.bestBy(1), 2);
        x.mend(0, 1, 5, 0);
        DUE.is("the weak one goes out", Due.tape(x, 2, 3, 4).bestMend(0), life);
        DUE.is("out", x.bestBy(0), 5);
        DUE.is("in, of like LIFES the first told", x.bestBy(1), 2);
        DUE.is("told otherwise", Due.tape(x, 4, 2, 3).bestMend(0), life);
        DUE.is("in", x.bestBy(1), 4);
        // it may be worse than nothing
        DeadPacks y = Due.holding(new int[] {150, 150, 120, 99}, Due.alike(50, 4));
        Due.tape(y, 0, 1).pack(2, 0);
        int now = y.life(0);
        DUE.is("worse", Due.tape(y, 2).bestMend(0) < now, true);
        DUE.is("worst", Due.tape(y, 3).bestMend(0), 0);
        DUE.is("first place", y.bestBy(0), 0);
        // a ROW of several: the flow counts too
        DeadPacks z = Due.holding("bench b;box x;fade 0 99;", Due.alike(100, 5), new int[] {50, 400, 10, 10, 20});
        Due.tape(z, 0, 1, 2, 3).pack(2, 0);
        Due.tape(z, 4).bestMend(0);
        DUE.is("the one that passes least", z.bestBy(0), 1);
        int told = Due.tape(z, 4).bestMend(0);
        z.mend(0, 1, 4, 0);
        DUE.is("LIFE then", z.life(0), told);
    }

    private static void bestNotDone() {
        DUE.by("BEST MEND: not done");
        DeadPacks x = Due.holding(new int[] {120, 150, 200}, Due.alike(50, 3));
        Due.tape(x, 0, 1).pack(2, 0);
        int life = x.life(0);
        Due.tape(x, 2).bestMend(0);
        DUE.is("LIFE", x.life(0), life);
        DUE.is("in it", x.about(0, 5), 0);
        DUE.is("not in it", x.about(2, 5), -1);
        DUE.is("none MENDED", x.count(6), 0);
        DUE.is("no DAY told", x.mend(0, 0, 2, 0), true);
    }

    private static void bestByLatest() {
        DUE.by("bestBy: by the latest bestMend() that was not NONE; NONE: another what, or ahead of any");
        DeadPacks x = Due.holding(new int[] {150, 120, 200, 210}, Due.alike(50, 4));
        for (int what = -1; what <= 2; what++) {
            DUE.is("ahead of any: " + what, x.bestBy(what), -1);
        }
        Due.tape(x, 2).bestMend(0);
        DUE.is("a refused one is none", x.bestBy(0), -1);
        Due.tape(x, 0, 1).pack(2, 0);
        DUE.is("no spare ones", Due.tape(x).bestMend(0), -1);
        DUE.is("still ahead of any", x.bestBy(0), -1);
        DUE.is("still ahead of any", x.bestBy(1), -1);
        Due.tape(x, 2).bestMend(0);
        int[] due = {-1, 1, 2, -1};
        for (int what = -1; what <= 2; what++) {
            DUE.is("what " + what, x.bestBy(what), due[what + 1]);
        }
        Due.tape(x, 3, 3).bestMend(0);
        Due.tape(x, 3).bestMend(1);
        Due.tape(x).bestMend(0);
        DUE.is("refused ones leave it", x.bestBy(1), 2);
        x.mend(0, 1, 2, 0);
        DUE.is("so does mend()", x.bestBy(0), 1);
        Due.tape(x, 3).bestMend(0);
        DUE.is("the latest", x.bestBy(0), 0);
        DUE.is("the latest", x.bestBy(1), 3);
        for (int far : FAR) {
            DUE.is("far", x.bestBy(far), -1);
        }
    }

    private static DeadPacks twoRows(String laws, int a, int b) {
        DeadPacks x = Due.holding("bench b;box x;" + laws, new int[] {a, b}, new int[] {50, 50});
        Due.tape(x, 0, 1).pack(2, 0);
        return x;
    }

    private static void balanceHundredths() {
        DUE.by("some hundredths (0 to 100) of its HOLD, cut");
        DeadPacks x = twoRows("bleed 1;", 99, 150);
        DUE.is("0 and 100", Due.tape(x, 0, 100).balance(0), 150);
        DUE.is("100 and 0", Due.tape(x, 100, 0).balance(0), 99);
        DUE.is("101", Due.tape(x, 101, 0).balance(0), -1);
        DUE.is("101", Due.tape(x, 0, 101).balance(0), -1);
        DUE.is("255", Due.tape(x, 255, 0).balance(0), -1);
        DUE.is("128", Due.tape(x, 0, 128).balance(0), -1);
        // 99 hundredths of 99 are 98.01, 1 of 99 is 0.99, 65 of 150 are 97.5
        DUE.is("cut", Due.tape(x, 1, 100).balance(0), 150);
        DUE.is("cut", Due.tape(x, 99, 65).balance(0), 1);
        DUE.is("LOST", x.lost(), 1);
        DUE.is("cut", Due.tape(x, 99, 66).balance(0), 1);
    }

    private static void balanceRefused() {
        DUE.by("the tape's bytes being hundredths, ROW by ROW; NONE: not as told");
        DeadPacks x = Due.holding(Due.alike(100, 8), Due.alike(50, 8));
        DUE.is("no PACKS", Due.tape(x, 5).balance(0), -1);
        Due.tape(x, 0, 1, 2, 3, 4, 5).pack(3, 0);
        Due.tape(x, 6, 7).pack(1, 0);
        DUE.is("2 for 3", Due.tape(x, 5, 5).balance(0), -1);
        DUE.is("3 for 3", Due.tape(x, 5, 5, 5).balance(0), 0);
        DUE.is("4 for 3", Due.tape(x, 5, 5, 5, 5).balance(0), -1);
        DUE.is("6 for 3", Due.tape(x, 5, 5, 5, 5, 5, 5).balance(0), -1);
        DUE.is("0 for 3", Due.tape(x).balance(0), -1);
        DUE.is("0 for 1", Due.tape(x).balance(1), -1);
        DUE.is("1 for 1", Due.tape(x, 5).balance(1), 0);
        DUE.is("the tape is empty then", x.count(8), 0);
        for (int p : new int[] {-1, 2, 10, Integer.MIN_VALUE, Integer.MAX_VALUE}) {
            DUE.is("PACK " + p, Due.tape(x, 5).balance(p), -1);
            DUE.is("the tape is empty then", x.count(8), 0);
        }
    }

    private static void hoursCutUp() {
        DUE.by("HOURS: the most over it by 'bleed', cut up");
        DeadPacks x = twoRows("bleed 7;", 100, 100);
        int[][] due = {{0, 0}, {1, 1}, {6, 1}, {7, 1}, {8, 2}, {14, 2}, {15, 3}, {99, 15}, {100, 15}};
        for (int[] d : due) {
            DUE.is(d[0] + " over", Due.tape(x, 0, d[0]).balance(0), d[1]);
            DUE.is(d[0] + " over", Due.tape(x, d[0], 0).balance(0), d[1]);
        }
        DUE.is("bleed 99", Due.tape(twoRows("bleed 99;", 100, 100), 0, 99).balance(0), 1);
        DUE.is("bleed 99", Due.tape(twoRows("bleed 99;", 100, 100), 0, 100).balance(0), 2);
        DUE.is("bleed 1", Due.tape(twoRows("bleed 1;", 400, 400), 0, 100).balance(0), 400);
    }

    private static void lostAll() {
        DUE.by("LOST: all over it, added");
        DeadPacks x = Due.holding(new int[] {100, 200, 300}, Due.alike(50, 3));
        Due.tape(x, 0, 1, 2).pack(3, 0);
        Due.tape(x, 50, 50, 50).balance(0);
        DUE.is("50 100 150", x.lost(), 150);
        Due.tape(x, 60, 30, 20).balance(0);
        DUE.is("60 60 60", x.lost(), 0);
        Due.tape(x, 0, 100, 100).balance(0);
        DUE.is("0 200 300", x.lost(), 500);
        DeadPacks y = Due.holding(new int[] {100, 200}, Due.alike(50, 2));
        Due.tape(y, 0, 1).pack(1, 0);
        DUE.is("one ROW bleeds nothing", Due.tape(y, 100).balance(0), 0);
        DUE.is("one ROW loses nothing", y.lost(), 0);
    }

    private static void lostLatest() {
        DUE.by("LOST by the latest balance() that was not NONE; NONE ahead of any");
        DeadPacks x = twoRows("", 100, 200);
        DUE.is("ahead of any", x.lost(), -1);
        Due.tape(x, 5).balance(0);
        DUE.is("a refused one is none", x.lost(), -1);
        Due.tape(x, 10, 10).balance(0);
        DUE.is("10 and 20", x.lost(), 10);
        Due.tape(x, 101, 10).balance(0);
        Due.tape(x, 10, 10).balance(1);
        DUE.is("refused ones leave it", x.lost(), 10);
        x.read(0, 0, 400, 50);
        DUE.is("so do READINGS", x.lost(), 10);
        Due.tape(x, 0, 0).balance(0);
        DUE.is("the latest", x.lost(), 0);
    }

    /** SHORT of the first CELL of a PACK of one ROW. */
    private static int shorted(int fuse, int... passes) {
        DeadPacks x = Due.holding("bench b;box x;fuse " + fuse + ";", Due.alike(5, passes.length), passes);
        Due.tape(x, Due.from(0, passes.length)).pack(1, 0);
        return x.shorted(0);
    }

    private static void shortedFuse() {
        DUE.by("37000 by both TRUE PASSES added, cut. Of those the fuses go that give more than 'fuse'");
        DUE.is("37000 by 100 is 370", shorted(370, 50, 50), 0);
        DUE.is("more than 369", shorted(369, 50, 50), 11);
        DUE.is("37000 by 101 is 366.3", shorted(366, 50, 51), 0);
        DUE.is("more than 365", shorted(365, 50, 51), 11);
        DUE.is("37000 by 227 is 162.996", shorted(162, 100, 127), 0);
        DUE.is("more than 161", shorted(161, 100, 127), 11);
        DUE.is("37000 by 185 is 200", shorted(200, 100, 85), 0);
        DUE.is("more than 199", shorted(199, 100, 85), 11);
        DUE.is("18500, far more than 999", shorted(999, 1, 1), 11);
        DUE.is("37000 by 1998 is 18", shorted(18, 999, 999), 0);
        DUE.is("more than 17", shorted(17, 999, 999), 11);
        DUE.is("fuse 1", shorted(1, 999, 999), 11);
        DUE.is("some of them", shorted(300, 50, 50, 500, 50, 500), 21);
        int[] forty = Due.alike(10, 40);
        DUE.is("39 of 40", shorted(999, forty), 391);
    }

    private static void shortedOwn() {
        DUE.by("its own goes, if all together give more");
        // 82 each
        DUE.is("one of 82", shorted(100, 50, 400), 0);
        DUE.is("two of 82", shorted(100, 50, 400, 400), 1);
        DUE.is("two of 82 are 164", shorted(164, 50, 400, 400), 0);
        DUE.is("more than 163", shorted(163, 50, 400, 400), 1);
        DUE.is("none at all", shorted2(), 0);
    }

    /** One CELL in each ROW. */
    private static int shorted2() {
        DeadPacks x = Due.holding("bench b;box x;fuse 1;", new int[] {5, 5}, new int[] {1, 1});
        Due.tape(x, 0, 1).pack(2, 0);
        return x.shorted(1);
    }

    private static void shortedRefused() {
        DUE.by("shorted: NONE: it is in none, no such one");
        DeadPacks x = Due.holding("bench b;box x;fuse 1;", Due.alike(5, 3), Due.alike(50, 3));
        DUE.is("in none", x.shorted(0), -1);
        Due.tape(x, 0, 1).pack(1, 0);
        DUE.is("in one", x.shorted(0), 11);
        DUE.is("in one", x.shorted(1), 11);
        DUE.is("in none", x.shorted(2), -1);
        for (int c : new int[] {-1, 3, 60, Integer.MIN_VALUE, Integer.MAX_VALUE}) {
            DUE.is("no CELL " + c, x.shorted(c), -1);
        }
        x.mend(0, 0, 2, 0);
        DUE.is("out now", x.shorted(0), -1);
        DUE.is("in now", x.shorted(2), 11);
    }

    /** BOX x has CELLS 0 and 1, BOX y 2 and 3, BOX z none. */
    private static DeadPacks boxed() {
        DeadPacks x = Due.housed("bench b;box x;box y;box z;");
        for (int c = 0; c < 4; c++) {
            x.cell(c / 2);
            x.read(c, 0, 50, 50);
        }
        return x;
    }

    private static void heldDays() {
        DUE.by("HELD: PACKS that had a CELL of it at the end of that DAY");
        DeadPacks x = boxed();
        DUE.is("no PACKS", x.held(0, 999), 0);
        Due.tape(x, 0, 1).pack(1, 5);
        DUE.is("the DAY ahead", x.held(0, 4), 0);
        DUE.is("the DAY it was made", x.held(0, 5), 1);
        x.mend(0, 0, 2, 8);
        x.mend(0, 1, 3, 8);
        DUE.is("the DAY ahead", x.held(0, 7), 1);
        DUE.is("the DAY ahead", x.held(1, 7), 0);
        DUE.is("at the end of that DAY", x.held(0, 8), 0);
        DUE.is("at the end of that DAY", x.held(1, 8), 1);
        x.mend(0, 2, 0, 9);
        DUE.is("one of each", x.held(0, 9), 1);
        DUE.is("one of each", x.held(1, 9), 1);
        DUE.is("the DAY ahead", x.held(0, 8), 0);
        DUE.is("on and on", x.held(0, 999), 1);
        DUE.is("a BOX without CELLS", x.held(2, 999), 0);
    }

    private static void heldOthers() {
        DUE.by("HELD: each PACK by what was MENDED on it, place by place");
        DeadPacks x = Due.housed("bench b;box x;box y;");
        for (int c = 0; c < 8; c++) {
            x.cell(c < 4 ? 0 : 1);
            x.read(c, 0, 50, 50);
        }
        Due.tape(x, 0, 1).pack(1, 5);
        Due.tape(x, 4, 5).pack(1, 5);
        Due.tape(x, 2, 3).pack(1, 6);
        x.mend(1, 4, 6, 10);
        DUE.is("one of y for another one", x.held(1, 9), 2);
        DUE.is("one of y for another one", x.held(1, 10), 2);
        x.mend(2, 2, 4, 20);
        DUE.is("y ahead of it", x.held(1, 19), 2);
        DUE.is("y in PACK 2 too", x.held(1, 20), 6);
        DUE.is("x in PACK 2 still", x.held(0, 20), 5);
        x.mend(2, 3, 7, 30);
        DUE.is("x in PACK 2 no more", x.held(0, 30), 1);
        DUE.is("x in PACK 2 till then", x.held(0, 29), 5);
        x.mend(0, 1, 2, 40);
        DUE.is("PACK 0 all along", x.held(0, 39), 1);
        DUE.is("PACK 0 all along", x.held(0, 40), 1);
        DUE.is("not y", x.held(1, 40), 6);
        x.mend(1, 6, 3, 50);
        x.mend(1, 5, 1, 60);
        DUE.is("PACK 1: both", x.held(0, 50), 3);
        DUE.is("PACK 1: both", x.held(1, 59), 6);
        DUE.is("PACK 1: x alone", x.held(1, 60), 4);
        DUE.is("ever x", x.held(0, -1), 7);
        DUE.is("ever y", x.held(1, -1), 6);
    }

    private static void heldEver() {
        DUE.by("of DAY NONE: PACKS that ever had a CELL of it");
        DeadPacks x = boxed();
        Due.tape(x, 0, 1).pack(1, 999);
        DUE.is("made on 999", x.held(0, -1), 1);
        x.mend(0, 0, 2, 999);
        DUE.is("in on 999", x.held(1, -1), 1);
        x.mend(0, 2, 0, 999);
        DUE.is("in and out on 999", x.held(1, 999), 0);
        DUE.is("yet it was in", x.held(1, -1), 1);
        DUE.is("a BOX without CELLS", x.held(2, -1), 0);
        Due.tape(x, 2, 3).pack(1, 0);
        DUE.is("PACK 1 too", x.held(1, -1), 3);
        DUE.is("not this one", x.held(0, -1), 1);
        DeadPacks y = boxed();
        Due.tape(y, 0, 2).pack(1, 7);
        y.mend(0, 0, 3, 7);
        DUE.is("the first that went out", y.held(0, -1), 1);
        DUE.is("not by the end of that DAY", y.held(0, 7), 0);
    }

    private static void heldThirty() {
        DUE.by("HELD when 30 were MENDED");
        DeadPacks x = boxed();
        Due.tape(x, 0, 1).pack(1, 0);
        for (int i = 0; i < 30; i++) {
            DUE.is("one of 30", x.mend(0, i % 2 == 0 ? 0 : 2, i % 2 == 0 ? 2 : 0, 10 + i), true);
        }
        for (int day = 0; day < 60; day++) {
            DUE.is("y on " + day, x.held(1, day), day >= 10 && day < 40 && day % 2 == 0 ? 1 : 0);
            DUE.is("x on " + day, x.held(0, day), 1);
            DUE.is("z on " + day, x.held(2, day), 0);
        }
        DUE.is("y ever", x.held(1, -1), 1);
        DUE.is("z never", x.held(2, -1), 0);
    }

    private static void heldRefused() {
        DUE.by("held: HELD of a BOX on a DAY (0 to 999); NONE: no such ones");
        DeadPacks x = boxed();
        Due.tape(x, 0, 1).pack(1, 0);
        DUE.is("DAY 0", x.held(0, 0), 1);
        DUE.is("DAY 999", x.held(0, 999), 1);
        DUE.is("DAY 1000", x.held(0, 1000), -1);
        DUE.is("DAY -2", x.held(0, -2), -1);
        DUE.is("BOX -1", x.held(-1, 0), -1);
        DUE.is("BOX 3", x.held(3, 0), -1);
        DUE.is("BOX 3, ever", x.held(3, -1), -1);
        DUE.is("BOX 2", x.held(2, 0), 0);
        for (int far : FAR) {
            DUE.is("far", x.held(far, 0), -1);
            DUE.is("far", x.held(0, far), -1);
        }
        DUE.is("an empty HOUSE", new DeadPacks().held(0, 0), -1);
    }
}
