/** Promises 26 to 37: PACKS, how they wear, are MENDED, bleed, SHORT, and what they HELD. */
public final class PackTest {
    private static final Due DUE = new Due();
    private static final String LAWS = "bench b;bench d;box x;box y;fade 5 10;floor 150;bleed 7;fuse 300;";

    public static void main(String[] args) {
        packs();
        wear();
        wearEdges();
        mends();
        bestMends();
        balances();
        shorts();
        helds();
        DUE.finish();
    }

    private static DeadPacks five() {
        return Due.holding(LAWS, new int[] {101, 120, 84, 95, 60}, new int[] {50, 61, 103, 80, 40});
    }

    private static void packs() {
        DeadPacks x = five();
        x.cell(0);
        x.read(5, 1, 50, 50);
        DUE.is("of one", Due.tape(x, 0).pack(1, 0), -1);
        DUE.is("of none", Due.tape(x).pack(1, 0), -1);
        DUE.is("alike", Due.tape(x, 0, 0).pack(1, 0), -1);
        DUE.is("not TRUE", Due.tape(x, 0, 5).pack(1, 0), -1);
        DUE.is("no CELL", Due.tape(x, 0, 6).pack(1, 0), -1);
        DUE.is("no divisor", Due.tape(x, 0, 1, 2).pack(2, 0), -1);
        DUE.is("in 0", Due.tape(x, 0, 1).pack(0, 0), -1);
        DUE.is("in 3", Due.tape(x, 0, 1).pack(3, 0), -1);
        DUE.is("day -1", Due.tape(x, 0, 1).pack(1, -1), -1);
        DUE.is("day 1000", Due.tape(x, 0, 1).pack(1, 1000), -1);
        DUE.is("the tape is empty then", x.count(8), 0);
        DUE.is("none", x.count(5), 0);
        DUE.is("good", Due.tape(x, 3, 0).pack(2, 999), 0);
        DUE.is("in order", x.inPack(0, 0), 3);
        DUE.is("in order", x.inPack(0, 1), 0);
        DUE.is("behind", x.inPack(0, 2), -1);
        DUE.is("ahead", x.inPack(0, -1), -1);
        DUE.is("no pack", x.inPack(1, 0), -1);
        DUE.is("no pack", x.inPack(-1, 0), -1);
        DUE.is("in another", Due.tape(x, 1, 0).pack(1, 0), -1);
        DUE.is("good", Due.tape(x, 1, 2).pack(1, 0), 1);
        int[] holds = new int[60];
        int[] passes = new int[60];
        for (int i = 0; i < 60; i++) {
            holds[i] = 50;
            passes[i] = 50;
        }
        DeadPacks y = Due.holding(holds, passes);
        for (int p = 0; p < 10; p++) {
            DUE.is("ten", Due.tape(y, 2 * p, 2 * p + 1).pack(1, 0), p);
        }
        DUE.is("all ten", y.held(0, 0), 1023);
        DUE.is("eleventh", Due.tape(y, 20, 21).pack(1, 0), -1);
        DeadPacks z = Due.holding(holds, passes);
        int[] bytes = new int[41];
        for (int i = 0; i < 41; i++) {
            bytes[i] = i + 19;
        }
        DUE.is("of 41", Due.tape(z, bytes).pack(1, 0), -1);
        DUE.is("of 40", Due.tape(z, java.util.Arrays.copyOf(bytes, 40)).pack(40, 0), 0);
        DUE.is("last", z.inPack(0, 39), 58);
        DUE.is("40 rows", z.row(0, 39, 0), 50);
        DUE.is("40 rows, no help", Due.tape(z, 3).bestMend(0), 0);
        DUE.is("the first place", z.bestBy(0), 19);
    }

    private static void wear() {
        DeadPacks x = five();
        DUE.is("no pack", x.life(0), -1);
        DUE.is("no pack", x.ends(0), -1);
        Due.tape(x, 0, 3, 1, 4).pack(2, 100);
        DUE.is("HOLD", x.row(0, 0, 0), 196);
        DUE.is("FLOW", x.row(0, 0, 1), 20000 + 12500);
        DUE.is("CYCLES", x.row(0, 0, 2), 2934);
        DUE.is("HOLD", x.row(0, 1, 0), 180);
        DUE.is("FLOW", x.row(0, 1, 1), 16393 + 25000);
        DUE.is("CYCLES", x.row(0, 1, 2), 2253);
        DUE.is("LIFE", x.life(0), 2253);
        DUE.is("ends", x.ends(0), 1);
        DUE.throwsNoSuch("row(0, 2, 0)", () -> x.row(0, 2, 0));
        DUE.throwsNoSuch("row(0, -1, 0)", () -> x.row(0, -1, 0));
        DUE.throwsNoSuch("row(0, 0, 3)", () -> x.row(0, 0, 3));
        DUE.throwsNoSuch("row(0, 0, -1)", () -> x.row(0, 0, -1));
        DUE.throwsNoSuch("row(1, 0, 0)", () -> x.row(1, 0, 0));
        DUE.throwsNoSuch("row(-1, 0, 0)", () -> x.row(-1, 0, 0));
        DUE.is("no pack", x.life(1), -1);
        DUE.is("no pack", x.life(-1), -1);
        DUE.is("no pack", x.ends(1), -1);
        DUE.is("no pack", x.ends(-1), -1);
        // a READING more changes what is TRUE, in PACKS too
        x.read(0, 0, 201, 50);
        DUE.is("TRUE as it is now", x.row(0, 0, 0), 151 + 95);
    }

    private static int cycles(String laws, int hold, int pass) {
        DeadPacks x = Due.holding("bench b;box x;" + laws, new int[] {hold, hold}, new int[] {pass, pass});
        Due.tape(x, 0, 1).pack(2, 0);
        DUE.is("of like ROWS the first", x.ends(0), 0);
        DUE.is("LIFE", x.life(0), x.row(0, 1, 2));
        return x.life(0);
    }

    private static void wearEdges() {
        DUE.is("no FADE", cycles("fade 0 0;", 100, 5), 100000);
        DUE.is("below the floor, no FADE", cycles("fade 0 0;", 99, 5), 0);
        DUE.is("as the floor", cycles("fade 1 0;", 100, 5), 1);
        DUE.is("below the floor", cycles("fade 1 0;", 99, 5), 0);
        DUE.is("as the floor, the least there is", cycles("fade 0 1;floor 1;", 1, 10), 1);
        // R 9, 1 times 9 by 10, cut
        DUE.is("B is cut", cycles("fade 0 1;", 200, 9), 100000);
        // FADE 1: above 500000 cycles
        DUE.is("100000 at most", cycles("fade 0 1;", 200, 10), 100000);
        // FADE 10: half is gone after 50000, below it after 50001
        DUE.is("FADE 10", cycles("fade 1 0;", 200, 10), 50001);
        // FADE 5, 400 to 200 in 100000: 100001 would be the least
        DUE.is("just 100000", cycles("fade 0 1;floor 200;", 400, 50), 100000);
        // FADE 6: 83333.3
        DUE.is("FADE 6", cycles("fade 0 1;floor 200;", 400, 60), 83334);
        // PASS 3: FLOW 333333, R 3; 99 times 3 by 10 is 29
        DUE.is("R is cut", cycles("fade 0 99;floor 200;", 400, 3), 500000 / 29 + 1);
    }

    private static void mends() {
        DeadPacks x = five();
        x.cell(1);
        x.read(5, 1, 5, 5);
        Due.tape(x, 0, 3, 1, 4).pack(2, 100);
        DUE.is("sooner", x.mend(0, 4, 2, 99), false);
        DUE.is("day 1000", x.mend(0, 4, 2, 1000), false);
        DUE.is("in a PACK", x.mend(0, 4, 1, 120), false);
        DUE.is("itself", x.mend(0, 4, 4, 120), false);
        DUE.is("not in it", x.mend(0, 2, 4, 120), false);
        DUE.is("not TRUE", x.mend(0, 4, 5, 120), false);
        DUE.is("no CELL goes out", x.mend(0, 6, 2, 120), false);
        DUE.is("no CELL goes out", x.mend(0, -1, 2, 120), false);
        DUE.is("no CELL comes", x.mend(0, 4, 6, 120), false);
        DUE.is("no CELL comes", x.mend(0, 4, -1, 120), false);
        DUE.is("no PACK", x.mend(1, 4, 2, 120), false);
        DUE.is("no PACK", x.mend(-1, 4, 2, 120), false);
        DUE.is("none", x.count(6), 0);
        DUE.is("the day it was made", x.mend(0, 4, 2, 100), true);
        DUE.is("in its place", x.inPack(0, 3), 2);
        DUE.is("out of it", x.about(4, 5), -1);
        DUE.is("in it", x.about(2, 5), 0);
        DUE.is("LIFE now", x.life(0), 2934);
        DUE.is("ends now", x.ends(0), 0);
        DUE.is("day 999", x.mend(0, 0, 4, 999), true);
        DUE.is("sooner than the last", x.mend(0, 4, 0, 998), false);
        for (int i = 2; i < 30; i++) {
            DUE.is("mended", x.mend(0, i % 2 == 0 ? 4 : 0, i % 2 == 0 ? 0 : 4, 999), true);
        }
        DUE.is("31st", x.mend(0, 4, 0, 999), false);
        DUE.is("count", x.count(6), 30);
        DUE.is("held after all of them", x.held(0, 999), 1);
        DUE.is("held by none", x.held(1, 999), 0);
        DUE.is("ever held by none", x.held(1, -1), 0);
        // of another PACK
        DeadPacks y = five();
        Due.tape(y, 0, 1).pack(1, 0);
        Due.tape(y, 2, 3).pack(1, 500);
        DUE.is("in another PACK", y.mend(0, 2, 4, 600), false);
        DUE.is("its own days", y.mend(0, 1, 4, 3), true);
        DUE.is("its own days", y.mend(1, 2, 1, 499), false);
        DUE.is("again in a PACK", y.mend(1, 2, 1, 500), true);
        DUE.is("PACK of 1", y.about(1, 5), 1);
    }

    private static void bestMends() {
        DeadPacks x = five();
        x.cell(0);
        DUE.is("no pack", Due.tape(x, 2).bestMend(0), -1);
        Due.tape(x, 0, 3, 1, 4).pack(2, 100);
        DUE.is("ahead of any", x.bestBy(0), -1);
        DUE.is("ahead of any", x.bestBy(1), -1);
        DUE.is("best", Due.tape(x, 2).bestMend(0), 2934);
        DUE.is("out", x.bestBy(0), 4);
        DUE.is("in", x.bestBy(1), 2);
        DUE.is("another what", x.bestBy(2), -1);
        DUE.is("another what", x.bestBy(-1), -1);
        DUE.is("not done", x.inPack(0, 3), 4);
        DUE.is("not done", x.count(6), 0);
        DUE.is("in a PACK", Due.tape(x, 0).bestMend(0), -1);
        DUE.is("not TRUE", Due.tape(x, 5).bestMend(0), -1);
        DUE.is("no CELL", Due.tape(x, 6).bestMend(0), -1);
        DUE.is("alike", Due.tape(x, 2, 2).bestMend(0), -1);
        DUE.is("none", Due.tape(x).bestMend(0), -1);
        DUE.is("no pack", Due.tape(x, 2).bestMend(1), -1);
        DUE.is("no pack", Due.tape(x, 2).bestMend(-1), -1);
        DUE.is("the tape is empty then", x.count(8), 0);
        DUE.is("told stays", x.bestBy(0), 4);
        // the weak ROW stays weak whatever is done to the other one: like LIFES, the first place, the first spare
        DeadPacks y = Due.holding(new int[] {40, 200, 200, 200, 1, 1, 1, 1, 1, 1, 1, 1, 1, 1, 1},
                new int[] {50, 50, 50, 50, 50, 50, 50, 50, 50, 50, 50, 50, 50, 50, 50});
        Due.tape(y, 0, 1).pack(2, 0);
        DUE.is("no help", Due.tape(y, 9, 4).bestMend(0), 0);
        DUE.is("first place", y.bestBy(0), 0);
        DUE.is("first spare", y.bestBy(1), 9);
        DUE.is("ten", Due.tape(y, 4, 5, 6, 7, 8, 9, 10, 11, 3, 2).bestMend(0), y.row(0, 1, 2));
        DUE.is("out", y.bestBy(0), 0);
        DUE.is("in, of like ones the first", y.bestBy(1), 3);
        DUE.is("eleven", Due.tape(y, 4, 5, 6, 7, 8, 9, 10, 11, 3, 2, 12).bestMend(0), -1);
        // it may even be that nothing gets better than it is
        DeadPacks z = Due.holding(new int[] {200, 200, 150}, new int[] {50, 50, 50});
        Due.tape(z, 0, 1).pack(2, 0);
        int worse = Due.tape(z, 2).bestMend(0);
        DUE.is("worse", worse < z.life(0), true);
    }

    private static void balances() {
        DeadPacks x = Due.holding(LAWS, new int[] {101, 120, 84, 95}, new int[] {50, 61, 103, 80});
        DUE.is("no pack", Due.tape(x, 1, 2).balance(0), -1);
        DUE.is("ahead of any", x.lost(), -1);
        Due.tape(x, 0, 1, 2, 3).pack(4, 0);
        // 50.5, 60, 84, 0.95 cut
        DUE.is("HOURS", Due.tape(x, 50, 50, 100, 1).balance(0), 12);
        DUE.is("LOST", x.lost(), 50 + 60 + 84);
        DUE.is("even", Due.tape(x, 0, 0, 0, 0).balance(0), 0);
        DUE.is("LOST", x.lost(), 0);
        // 84 less 77: just one hour
        DUE.is("HOURS", Due.tape(x, 77, 65, 100, 82).balance(0), 1);
        DUE.is("LOST", x.lost(), 1 + 7);
        Due.tape(x, 0, 0, 0, 0, 255, 255).end(4);
        DUE.is("what was cut off counts no more", x.balance(0), 0);
        DUE.is("HOURS", Due.tape(x, 77, 65, 100, 82).balance(0), 1);
        DUE.is("101", Due.tape(x, 0, 0, 0, 101).balance(0), -1);
        DUE.is("255", Due.tape(x, 0, 0, 0, 255).balance(0), -1);
        DUE.is("too few", Due.tape(x, 0, 0, 0).balance(0), -1);
        DUE.is("too many", Due.tape(x, 0, 0, 0, 0, 0).balance(0), -1);
        DUE.is("none", Due.tape(x).balance(0), -1);
        DUE.is("no pack", Due.tape(x, 0, 0, 0, 0).balance(1), -1);
        DUE.is("no pack", Due.tape(x, 0, 0, 0, 0).balance(-1), -1);
        DUE.is("the tape is empty then", x.count(8), 0);
        DUE.is("told stays", x.lost(), 8);
    }

    private static void shorts() {
        DeadPacks x = Due.holding("fuse 100;bench b;box x;", new int[] {5, 5, 5, 5, 5}, new int[] {50, 50, 400, 50, 1});
        DUE.is("no CELL", x.shorted(5), -1);
        DUE.is("no CELL", x.shorted(-1), -1);
        DUE.is("in none", x.shorted(0), -1);
        Due.tape(x, 0, 1, 2).pack(1, 0);
        DUE.is("370 and 82", x.shorted(0), 11);
        DUE.is("82 and 82", x.shorted(2), 1);
        DUE.is("in none", x.shorted(3), -1);
        Due.tape(x, 3, 4).pack(2, 0);
        DUE.is("alone in its ROW", x.shorted(4), 0);
        // just as much as the fuse: 37000 by 370
        DeadPacks y = Due.holding("fuse 100;bench b;box x;", new int[] {5, 5, 5, 5}, new int[] {185, 185, 185, 183});
        Due.tape(y, 0, 1).pack(1, 0);
        DUE.is("as much, not more", y.shorted(0), 0);
        Due.tape(y, 3, 2).pack(1, 0);
        DUE.is("37000 by 368, cut", y.shorted(2), 0);
        DeadPacks w = Due.holding("fuse 226;bench b;box x;", new int[] {5, 5}, new int[] {81, 82});
        Due.tape(w, 0, 1).pack(1, 0);
        DUE.is("37000 by 163, just below 227", w.shorted(0), 0);
        DeadPacks z = Due.holding("fuse 100;bench b;box x;", new int[] {5, 5, 5, 5}, new int[] {183, 183, 400, 10});
        Due.tape(z, 2, 3, 0, 1).pack(2, 0);
        DUE.is("of its own ROW alone", z.shorted(0), 11);
        DUE.is("of its own ROW alone", z.shorted(3), 0);
    }

    private static void helds() {
        DeadPacks x = Due.housed("bench b;box x;box y;box z;");
        int[] boxes = {0, 0, 1, 2, 0, 1};
        for (int c = 0; c < 6; c++) {
            x.cell(boxes[c]);
            x.read(c, 0, 50, 50);
        }
        DUE.is("no PACKS", x.held(0, 5), 0);
        Due.tape(x, 0, 1).pack(1, 10);
        Due.tape(x, 2, 4).pack(2, 20);
        // PACK 0: x x; y x from 30; z x on 40, for a while; y x again at its end
        x.mend(0, 0, 5, 30);
        x.mend(0, 5, 3, 40);
        x.mend(0, 3, 5, 40);
        x.mend(0, 1, 0, 50);
        int[][] due = {{0, 9, 0}, {0, 10, 1}, {0, 19, 1}, {0, 20, 3}, {0, 999, 3}, {1, 10, 0}, {1, 20, 2}, {1, 29, 2},
            {1, 30, 3}, {1, 39, 3}, {1, 40, 3}, {2, 30, 0}, {2, 40, 0}, {2, -1, 1}, {0, -1, 3}, {1, -1, 3}, {0, 0, 0},
            {3, 5, -1}, {-1, 5, -1}, {0, 1000, -1}, {0, -2, -1}};
        for (int[] d : due) {
            DUE.is("held(" + d[0] + ", " + d[1] + ")", x.held(d[0], d[1]), d[2]);
        }
        // both CELLS of box x go: from then on it has none
        DeadPacks y = Due.housed("bench b;box x;box y;");
        for (int c = 0; c < 4; c++) {
            y.cell(c / 2);
            y.read(c, 0, 50, 50);
        }
        Due.tape(y, 0, 1).pack(1, 0);
        y.mend(0, 0, 2, 5);
        y.mend(0, 1, 3, 7);
        y.image(0);
        Due.tape(y, "bench b;box x;box y;").house();
        y.cell(0);
        y.cell(0);
        DUE.is("a new HOUSE holds nothing", y.held(0, 999), 0);
        DUE.is("a new HOUSE never held", y.held(0, -1), 0);
        y.restore(0);
        DeadPacks z = Due.housed("bench b;box x;box y;");
        for (int c = 0; c < 3; c++) {
            z.cell(c == 0 ? 0 : 1);
            z.read(c, 0, 50, 50);
        }
        Due.tape(z, 0, 1).pack(1, 0);
        z.mend(0, 0, 2, 0);
        DUE.is("gone on the day it came", z.held(0, 0), 0);
        DUE.is("yet it was there", z.held(0, -1), 1);
        int[][] gone = {{0, 0, 1}, {0, 6, 1}, {0, 7, 0}, {0, 8, 0}, {0, -1, 1}, {1, 4, 0}, {1, 5, 1}, {1, -1, 1}};
        for (int[] d : gone) {
            DUE.is("gone: held(" + d[0] + ", " + d[1] + ")", y.held(d[0], d[1]), d[2]);
        }
    }
}
