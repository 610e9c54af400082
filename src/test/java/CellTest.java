/** Promises 6 to 14: CELLS, READINGS, RESTS, LEANS, TRUE values, AGAIN, FALL, LIES, LONG. */
public final class CellTest {
    private static final Due DUE = new Due();

    public static void main(String[] args) {
        cells();
        readings();
        rests();
        leans();
        joining();
        truths();
        again();
        falls();
        lying();
        longs();
        DUE.finish();
    }

    private static void cells() {
        DeadPacks x = Due.housed("box a;box b;");
        DUE.is("cell -1", x.cell(-1), -1);
        DUE.is("cell 2", x.cell(2), -1);
        for (int c = 0; c < 60; c++) {
            DUE.is("cell", x.cell(c % 2), c);
        }
        DUE.is("61st", x.cell(0), -1);
        DUE.is("count", x.count(2), 60);
        DUE.is("box", x.about(59, 0), 1);
        DUE.is("box", x.about(58, 0), 0);
    }

    private static void readings() {
        DeadPacks x = Due.housed("bench a;bench b;box x;");
        x.cell(0);
        DUE.is("no cell 1", x.read(1, 0, 1, 1), -1);
        DUE.is("no cell -1", x.read(-1, 0, 1, 1), -1);
        DUE.is("no bench 2", x.read(0, 2, 1, 1), -1);
        DUE.is("no bench -1", x.read(0, -1, 1, 1), -1);
        DUE.is("hold 0", x.read(0, 0, 0, 1), -1);
        DUE.is("hold 401", x.read(0, 0, 401, 1), -1);
        DUE.is("pass 0", x.read(0, 0, 1, 0), -1);
        DUE.is("pass 1000", x.read(0, 0, 1, 1000), -1);
        DUE.is("none came", x.count(3), 0);
        DUE.is("least", x.read(0, 0, 1, 1), 0);
        DUE.is("most", x.read(0, 1, 400, 999), 1);
        for (int i = 2; i < 200; i++) {
            DUE.is("reading", x.read(0, 0, 1, 1), i);
        }
        DUE.is("201st", x.read(0, 0, 1, 1), -1);
        DUE.is("count", x.count(3), 200);
    }

    private static void rests() {
        DeadPacks x = Due.housed("box x;");
        x.cell(0);
        x.cell(0);
        DUE.is("no cell 2", x.rest(2, 0, 1, 1), -1);
        DUE.is("no cell -1", x.rest(-1, 0, 1, 1), -1);
        DUE.is("day -1", x.rest(0, -1, 1, 1), -1);
        DUE.is("day 100", x.rest(0, 100, 1, 1), -1);
        DUE.is("millivolts -1", x.rest(0, 0, -1, 1), -1);
        DUE.is("millivolts 4201", x.rest(0, 0, 4201, 1), -1);
        DUE.is("warm -1", x.rest(0, 0, 1, -1), -1);
        DUE.is("warm 100", x.rest(0, 0, 1, 100), -1);
        DUE.is("least", x.rest(0, 0, 0, 0), 0);
        DUE.is("same day", x.rest(0, 0, 0, 0), -1);
        DUE.is("most", x.rest(0, 99, 4200, 99), 1);
        DUE.is("earlier day", x.rest(0, 50, 4200, 99), -1);
        DUE.is("another cell", x.rest(1, 0, 4200, 99), 2);
        DUE.is("count", x.count(4), 3);
        DeadPacks y = Due.housed("box x;");
        y.cell(0);
        y.cell(0);
        y.cell(0);
        for (int i = 0; i < 200; i++) {
            DUE.is("rest", y.rest(i / 80, i % 80, 5, 5), i);
        }
        DUE.is("201st", y.rest(2, 99, 5, 5), -1);
    }

    private static void leans() {
        DeadPacks x = Due.housed("bench a;bench b;box x;");
        DUE.throwsNoSuch("lean(2, 0)", () -> x.lean(2, 0));
        DUE.throwsNoSuch("lean(-1, 0)", () -> x.lean(-1, 0));
        DUE.throwsNoSuch("lean(0, 3)", () -> x.lean(0, 3));
        DUE.throwsNoSuch("lean(0, -1)", () -> x.lean(0, -1));
        DUE.is("bench 0 is JOINED", x.lean(0, 2), 1);
        DUE.is("bench 1 is not", x.lean(1, 2), 0);
        for (int c = 0; c < 4; c++) {
            x.cell(0);
            x.read(c, 0, 100, 100);
        }
        // differences in HOLD 10, 3, 7, 5, in PASS -4, 4, 0, 9; only the first READINGS count for the LEAN
        x.read(0, 1, 110, 96);
        x.read(1, 1, 103, 104);
        x.read(2, 1, 107, 100);
        x.read(3, 1, 105, 109);
        x.read(3, 1, 300, 300);
        DUE.is("lower middle of four, HOLD", x.lean(1, 0), 5);
        DUE.is("lower middle of four, PASS", x.lean(1, 1), 0);
        DUE.is("JOINED", x.lean(1, 2), 1);
        // CELL 3: 100, 105 - 5, 300 - 5
        DUE.is("all READINGS count for TRUE", x.about(3, 1), (100 + 100 + 295) / 3);
        DUE.is("all READINGS count for TRUE", x.about(3, 2), (100 + 109 + 300) / 3);
        x.cell(0);
        x.read(4, 1, 120, 50);
        DUE.is("TRUE by a leaning bench", x.about(4, 1), 115);
        x.read(4, 0, 100, 100);
        // now 10, 3, 7, 5, 20: the middle one is 7
        DUE.is("middle of five", x.lean(1, 0), 7);
    }

    private static void joining() {
        // bench 2 shares two CELLS with bench 0, bench 1 one; then bench 1 shares with both, and with 3
        DeadPacks x = Due.housed("bench a;bench b;bench c;bench d;bench e;box x;");
        for (int c = 0; c < 6; c++) {
            x.cell(0);
        }
        x.read(0, 0, 100, 100);
        x.read(1, 0, 200, 200);
        x.read(0, 2, 110, 90);
        x.read(1, 2, 212, 190);
        x.read(2, 2, 60, 60);
        x.read(0, 1, 103, 100);
        x.read(3, 1, 80, 80);
        x.read(2, 1, 70, 70);
        x.read(3, 3, 90, 90);
        x.read(4, 4, 50, 50);
        // bench 2 first: LEAN 10, -10; TRUE of 0: (100 + 100) / 2, of 2: 50, 70
        DUE.is("bench 2", x.lean(2, 0), 10);
        DUE.is("bench 2", x.lean(2, 1), -10);
        // bench 1: 103 - 100, 70 - 50: lower middle 3; PASS 100 - 100, 70 - 70
        DUE.is("bench 1", x.lean(1, 0), 3);
        DUE.is("bench 1", x.lean(1, 1), 0);
        // bench 3 by bench 1 alone: 90 - (80 - 3)
        DUE.is("bench 3", x.lean(3, 0), 13);
        DUE.is("bench 3", x.lean(3, 1), 10);
        DUE.is("bench 4 is alone", x.lean(4, 2), 0);
        DUE.is("bench 4 is alone", x.lean(4, 0), 0);
        DUE.is("not TRUE", x.about(4, 1), -1);
        DUE.is("no READING", x.about(5, 1), -1);
        // of like ones the least: benches 1 and 2 share as many
        DeadPacks y = Due.housed("bench a;bench b;bench c;box x;");
        for (int c = 0; c < 3; c++) {
            y.cell(0);
        }
        y.read(0, 0, 100, 100);
        y.read(1, 0, 100, 100);
        y.read(0, 1, 120, 100);
        y.read(1, 2, 130, 100);
        y.read(2, 1, 60, 60);
        y.read(2, 2, 60, 60);
        DUE.is("bench 1 first", y.lean(1, 0), 20);
        // then bench 2: 130 - 100, 60 - 40
        DUE.is("bench 2 then", y.lean(2, 0), 20);
        // no benches at all
        DeadPacks z = Due.housed("box x;");
        z.cell(0);
        DUE.throwsNoSuch("lean without benches", () -> z.lean(0, 2));
        DUE.is("about without benches", z.about(0, 1), -1);
        // bench 0 has no READINGS: others never join
        DeadPacks w = Due.housed("bench a;bench b;box x;");
        w.cell(0);
        w.read(0, 1, 5, 5);
        DUE.is("not JOINED", w.lean(1, 2), 0);
    }

    private static void truths() {
        DeadPacks x = Due.housed("bench a;bench b;box x;box y;");
        x.cell(1);
        DUE.throwsNoSuch("about(1, 0)", () -> x.about(1, 0));
        DUE.throwsNoSuch("about(-1, 0)", () -> x.about(-1, 0));
        DUE.throwsNoSuch("about(0, 6)", () -> x.about(0, 6));
        DUE.throwsNoSuch("about(0, -1)", () -> x.about(0, -1));
        int[] without = {1, -1, -1, -1, 0, -1};
        for (int what = 0; what < 6; what++) {
            DUE.is("about without READINGS " + what, x.about(0, what), without[what]);
        }
        x.read(0, 0, 100, 3);
        int[] one = {1, 100, 3, 0, 333333, -1};
        for (int what = 0; what < 6; what++) {
            DUE.is("about with one READING " + what, x.about(0, what), one[what]);
        }
        x.read(0, 0, 105, 4);
        x.read(0, 0, 98, 4);
        DUE.is("TRUE HOLD, cut", x.about(0, 1), 101);
        DUE.is("TRUE PASS, cut", x.about(0, 2), 3);
        DUE.is("SPREAD", x.about(0, 3), 7);
        // LEAN 399: a CELL that has 1 there is -398, told as 1
        DeadPacks y = Due.housed("bench a;bench b;box x;");
        y.cell(0);
        y.cell(0);
        y.read(0, 0, 1, 1);
        y.read(0, 1, 400, 999);
        y.read(1, 1, 1, 1);
        DUE.is("1 at least, HOLD", y.about(1, 1), 1);
        DUE.is("1 at least, PASS", y.about(1, 2), 1);
        DUE.is("FLOW of it", y.about(1, 4), 1000000);
        y.read(1, 1, 3, 1);
        DUE.is("SPREAD is by the HOLDS, not by 1 at least", y.about(1, 3), 2);
        Due.tape(y, 0, 1).pack(1, 5);
        DUE.is("PACK", y.about(1, 5), 0);
    }

    private static void again() {
        DeadPacks x = Due.housed("bench a;bench b;box x;");
        DUE.is("no CELLS", x.again(), -1);
        for (int c = 0; c < 4; c++) {
            x.cell(0);
        }
        x.read(3, 0, 10, 10);
        DUE.is("one READING", x.again(), -1);
        x.read(3, 0, 10, 10);
        DUE.is("two of no SPREAD", x.again(), 3);
        x.read(2, 0, 10, 10);
        x.read(2, 0, 10, 10);
        DUE.is("of like ones the least", x.again(), 2);
        x.read(3, 0, 11, 10);
        DUE.is("greatest", x.again(), 3);
        x.read(0, 1, 100, 10);
        x.read(0, 1, 200, 10);
        DUE.is("not on JOINED benches", x.again(), 3);
        x.read(0, 0, 100, 10);
        DUE.is("now JOINED", x.again(), 0);
        for (int c = 4; c < 60; c++) {
            x.cell(0);
        }
        x.read(59, 0, 1, 10);
        x.read(59, 0, 400, 10);
        DUE.is("the last of sixty", x.again(), 59);
    }

    private static void falls() {
        DeadPacks x = Due.housed("box x;");
        x.cell(0);
        DUE.throwsNoSuch("no RESTS", () -> x.fall(0, 0));
        x.rest(0, 10, 4000, 0);
        DUE.throwsNoSuch("one REST", () -> x.fall(0, 0));
        x.rest(0, 20, 4000, 0);
        DUE.is("0 above", x.fall(0, 0), 0);
        DUE.is("1 below", x.fall(0, 1), 1);
        x.rest(0, 22, 3992, 0);
        DUE.is("2 above", x.fall(0, 0), 2);
        DUE.is("3 below", x.fall(0, 1), 3);
        x.rest(0, 25, 4100, 0);
        DUE.is("a rise", x.fall(0, 0), -20);
        DUE.is("by days", x.fall(0, 1), 3);
        DUE.throwsNoSuch("fall(0, 2)", () -> x.fall(0, 2));
        DUE.throwsNoSuch("fall(0, -1)", () -> x.fall(0, -1));
        DUE.throwsNoSuch("fall(1, 0)", () -> x.fall(1, 0));
        DUE.throwsNoSuch("fall(-1, 0)", () -> x.fall(-1, 0));
    }

    private static void lying() {
        DeadPacks x = Due.housed("box x;leak 2;jump 6;warm 45;");
        DUE.is("no CELL", x.lies(0), -1);
        DUE.is("no CELL", x.lies(-1), -1);
        for (int c = 0; c < 5; c++) {
            x.cell(0);
        }
        DUE.is("no RESTS", x.lies(0), 0);
        x.rest(0, 0, 4000, 44);
        DUE.is("one REST", x.lies(0), 0);
        x.rest(0, 10, 3980, 0);
        DUE.is("a FALL of leak", x.lies(0), 0);
        x.rest(0, 11, 3977, 0);
        DUE.is("a FALL above leak", x.lies(0), 1);
        x.rest(0, 40, 4000, 0);
        DUE.is("no more", x.lies(0), 0);
        x.rest(1, 0, 4000, 45);
        DUE.is("warm in one alone", x.lies(1), 4);
        x.rest(1, 9, 4000, 0);
        DUE.is("warm stays", x.lies(1), 4);
        x.rest(2, 0, 3000, 0);
        x.rest(2, 50, 3500, 0);
        x.rest(2, 52, 3488, 0);
        DUE.is("a fall of jump for each day", x.lies(2), 0);
        x.rest(2, 54, 3475, 0);
        DUE.is("a jump with no leak", x.lies(2), 2);
        x.rest(2, 90, 3600, 0);
        DUE.is("a jump stays", x.lies(2), 2);
        x.rest(3, 0, 4200, 99);
        x.rest(3, 1, 0, 0);
        DUE.is("all", x.lies(3), 7);
        DeadPacks y = Due.housed("box x;leak 0;jump 0;warm 0;");
        y.cell(0);
        y.rest(0, 0, 5, 0);
        y.rest(0, 1, 5, 0);
        DUE.is("warm 0, nothing fell", y.lies(0), 4);
        y.rest(0, 2, 4, 0);
        DUE.is("it fell by 1", y.lies(0), 7);
    }

    private static void longs() {
        DeadPacks x = Due.housed("noise 4;");
        int[][] due = {{0, -1}, {-1, -1}, {100, -1}, {1, 9}, {2, 5}, {3, 3}, {4, 3}, {7, 2}, {8, 2}, {9, 1}, {99, 1}};
        for (int[] d : due) {
            DUE.is("days(" + d[0] + ")", x.days(d[0]), d[1]);
        }
        DUE.is("noise 0", Due.housed("noise 0;").days(1), 1);
        DUE.is("noise 99", Due.housed("noise 99;").days(1), 199);
    }
}
