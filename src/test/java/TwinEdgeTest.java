/**
 * CELLS as they are then, and what is left of what was there ahead: an object that kept an image, was filled with other
 * things and was restored, or that got a new HOUSE, answers as its twin does to which nothing of this was done.
 */
public final class TwinEdgeTest {
    private static final Due DUE = new Due();
    private static final int CELLS = 14;
    /** In how many parts all answers are asked for, so that an object is used for fewer than 512 calls. */
    private static final int PARTS = 4;

    public static void main(String[] args) {
        afterReading();
        afterRestoring();
        image();
        imageTwice();
        newHouse();
        noLies();
        noLeans();
        noOldCells();
        DUE.finish();
    }

    /** A PACK of two ROWS, the other one of two CELLS of another BOX; CELLS 4 and 5 are free. */
    private static DeadPacks packed() {
        DeadPacks x = Due.holding("bench a;bench d;box x;fuse 200;bleed 1;", new int[] {150, 160, 170, 180, 190, 120},
                Due.alike(50, 6));
        Due.tape(x, 0, 1).pack(2, 10);
        Due.tape(x, 2, 3).pack(1, 10);
        x.life(0);
        return x;
    }

    /** One READING more makes CELL 0 hold 100 and pass 275, and BENCH 1 lean. */
    private static DeadPacks reread() {
        DeadPacks x = packed();
        x.read(0, 0, 50, 500);
        return x;
    }

    private static void thenAsked(String when, DeadPacks[] fresh) {
        DUE.is(when + ": life", fresh[0].life(0), 1);
        DUE.is(when + ": ends", fresh[1].ends(0), 0);
        DUE.is(when + ": row", fresh[2].row(0, 0, 0), 100);
        DUE.is(when + ": balance", Due.tape(fresh[3], 100, 100).balance(0), 60);
        DUE.is(when + ": shorted", fresh[4].shorted(2), 11);
        DUE.is(when + ": about", fresh[5].about(0, 1), 100);
        DUE.is(when + ": flow", fresh[6].about(0, 4), 1000000 / 275);
        DUE.is(when + ": again", fresh[7].again(), 0);
        DUE.is(when + ": swaps", Due.tape(fresh[8], 0, 4).swaps(2), 100);
        DUE.is(when + ": rows", Due.tape(fresh[9], 0, 4).rows(2), 100);
        DUE.is(when + ": most", Due.tape(fresh[10], 0, 4).most(1, 1, 101), 1);
        DUE.is(when + ": bestMend", Due.tape(fresh[11], 4).bestMend(0), fresh[11].row(0, 1, 2));
        DUE.is(when + ": what goes out", fresh[11].bestBy(0), 0);
        Due.tape(fresh[12], "hold<101").rule();
        DUE.is(when + ": meets", fresh[12].meets(-1), 1);
    }

    private static void afterReading() {
        DUE.by("CELLS as they are then: asked at once after a READING");
        DeadPacks[] fresh = new DeadPacks[13];
        for (int i = 0; i < fresh.length; i++) {
            fresh[i] = reread();
        }
        thenAsked("after read()", fresh);
        DeadPacks x = packed();
        x.read(2, 0, 50, 5);
        x.read(2, 0, 50, 5);
        DUE.is("shorted: 37000 by 20 and 50", x.shorted(2), 11);
        DeadPacks y = packed();
        y.read(2, 0, 50, 999);
        DUE.is("shorted: 37000 by 524 and 50", y.shorted(2), 0);
        DeadPacks v = packed();
        DUE.is("ends", v.ends(0), 0);
        v.read(1, 0, 50, 50);
        DUE.is("ends", v.ends(0), 1);
        v.image(0);
        v.read(0, 0, 1, 50);
        DUE.is("ends", v.ends(0), 0);
        v.restore(0);
        DUE.is("ends", v.ends(0), 1);
        DeadPacks z = packed();
        z.cell(0);
        DUE.is("not TRUE yet", z.mend(0, 0, 6, 20), false);
        z.read(6, 1, 5, 5);
        DUE.is("not on a JOINED BENCH", z.mend(0, 0, 6, 20), false);
        z.read(4, 1, 195, 50);
        DUE.is("BENCH 1 is JOINED, so it is TRUE", z.mend(0, 0, 6, 20), true);
        DeadPacks w = packed();
        w.cell(0);
        w.read(6, 0, 5, 5);
        DUE.is("TRUE by one READING", Due.tape(w, 6, 4).pack(1, 0), 2);
        w.read(4, 1, 195, 55);
        DUE.is("LEAN at once", w.lean(1, 0), 5);
        w.read(5, 1, 122, 55);
        DUE.is("LEAN at once", w.lean(1, 0), 2);
    }

    private static void afterRestoring() {
        DUE.by("CELLS as they are then: asked at once after restore()");
        DeadPacks[] fresh = new DeadPacks[13];
        for (int i = 0; i < fresh.length; i++) {
            fresh[i] = reread();
            fresh[i].image(1);
            fresh[i].read(0, 0, 400, 5);
            fresh[i].read(2, 0, 400, 999);
            fresh[i].life(0);
            fresh[i].restore(1);
        }
        thenAsked("after restore()", fresh);
    }

    /** Three PACKS of unlike sizes, five times MENDED, RESTS, LEANS, a RULE; another one by each number n (1 to 3). */
    private static DeadPacks busy(int n) {
        DeadPacks x = Due.housed("bench a;bench b;bench c;box x;box y;box z;fade 3 " + n + ";floor 9" + n
                + ";bleed 3;fuse 20" + n + ";noise " + n + ";leak 1;jump 2;warm 3" + n + ";");
        for (int c = 0; c < CELLS; c++) {
            x.cell((c + n) % 3);
            x.read(c, 0, 120 + (c * 7 + n) % 50, 40 + (c * 5 + n) % 30);
        }
        for (int c = 0; c < 4; c++) {
            x.read(c + n, 1, 130 + (c * 11 + n) % 50, 50 + (c * 3 + n) % 30);
        }
        for (int c = 0; c < 7; c++) {
            x.rest(c + n, c, 4000 - c * n, 28 + c + n);
            x.rest(c + n, c + 4, 4000 - c * n - 2 * c, 29 + c);
        }
        Due.tape(x, "not used and hold>1" + n + "0 or in y and lies").rule();
        Due.tape(x, n, n + 2, 0, n + 3).pack(2, 10 + n);
        Due.tape(x, n + 4, n + 5, n + 1).pack(3, 20 + n);
        Due.tape(x, 9, 10).pack(1, 5 + n);
        x.mend(1, n + 5, 11, 30);
        x.mend(0, n + 2, 12, 31);
        x.mend(2, 10, n + 5, 31);
        x.mend(0, 12, 10, 33);
        x.mend(1, n + 4, 12, 35);
        DUE.is("busy: PACKS", x.count(5), 3);
        DUE.is("busy: MENDED", x.count(6), 5);
        DUE.is("busy: READINGS", x.count(3), CELLS + 4);
        DUE.is("busy: RESTS", x.count(4), 14);
        return x;
    }

    /** Other things in all places: more BENCHES, CELLS, READINGS, RESTS, PACKS, mendings. */
    private static void fill(DeadPacks x) {
        Due.tape(x, "box r;bench p;box s;bench q;box t;box u;bench m;bench n;fade 50 50;floor 500;warm 0;jump 0;").house();
        for (int c = 0; c < 24; c++) {
            x.cell(3 - c % 3);
            x.read(c, 3 - c % 4, 400 - c, 900 - c);
        }
        for (int c = 0; c < 24; c++) {
            x.read(23 - c, 0, 300 + c, 500 + c);
            x.rest(c, 99 - c, c, 99);
        }
        Due.tape(x, "in u or cell>1 and not (lies or pass<1)").rule();
        for (int p = 0; p < 6; p++) {
            Due.tape(x, 23 - p, p, 17 - p).pack(p % 2 == 0 ? 3 : 1, 900 + p);
        }
        for (int m = 0; m < 9; m++) {
            x.mend(5 - m % 6, m < 6 ? 5 - m : 18 + m % 6, m < 6 ? 6 + m : 5, 950 + m);
        }
        Due.tape(x, 5, 6, 7);
        DUE.is("filled: PACKS", x.count(5), 6);
        DUE.is("filled: MENDED", x.count(6) >= 6, true);
    }

    /** What changes later, done to both of two twins. */
    private static void goOn(DeadPacks x) {
        x.read(3, 0, 77, 33);
        x.read(3, 2, 99, 44);
        x.read(5, 1, 10, 10);
        x.cell(1);
        x.read(CELLS, 2, 200, 77);
        x.rest(3, 60, 3000, 5);
        x.rest(13, 1, 4100, 5);
        x.mend(0, 10, 13, 40);
        x.mend(2, 9, CELLS, 41);
    }

    private static final int NO = -77777;

    private static int lean(DeadPacks x, int bench, int what) {
        return x.count(0) > bench ? x.lean(bench, what) : NO;
    }

    private static int fall(DeadPacks x, int c, int what) {
        try {
            return x.fall(c, what);
        } catch (java.util.NoSuchElementException none) {
            return NO;
        }
    }

    private static int row(DeadPacks x, int p, int r, int what) {
        try {
            return x.row(p, r, what);
        } catch (java.util.NoSuchElementException none) {
            return NO;
        }
    }

    /** One part of all that can be asked of both, and must be told alike. */
    private static void alike(String what, int part, DeadPacks x, DeadPacks y) {
        switch (part) {
            case 0:
                for (int i = 0; i < 8; i++) {
                    DUE.is(what + ": count(" + i + ")", x.count(i), y.count(i));
                    DUE.is(what + ": meets", x.meets(i - 1), y.meets(i - 1));
                }
                for (int b = 0; b < 9; b++) {
                    DUE.is(what + ": LEAN", lean(x, b / 3, b % 3), lean(y, b / 3, b % 3));
                }
                for (int r = 1; r < 100; r += 7) {
                    DUE.is(what + ": LONG", x.days(r), y.days(r));
                }
                DUE.is(what + ": AGAIN", x.again(), y.again());
                break;
            case 1:
                for (int c = 0; c < x.count(2); c++) {
                    for (int i = 0; i < 6; i++) {
                        DUE.is(what + ": about(" + c + ", " + i + ")", x.about(c, i), y.about(c, i));
                    }
                    DUE.is(what + ": LIES of " + c, x.lies(c), y.lies(c));
                    DUE.is(what + ": FALL of " + c, fall(x, c, 0), fall(y, c, 0));
                    DUE.is(what + ": FALL of " + c, fall(x, c, 1), fall(y, c, 1));
                    DUE.is(what + ": SHORT of " + c, x.shorted(c), y.shorted(c));
                }
                break;
            case 2:
                for (int p = 0; p < 7; p++) {
                    for (int i = 0; i < 5; i++) {
                        DUE.is(what + ": inPack(" + p + ", " + i + ")", x.inPack(p, i), y.inPack(p, i));
                        for (int k = 0; k < 3; k++) {
                            DUE.is(what + ": row(" + p + ", " + i + ", " + k + ")", row(x, p, i, k), row(y, p, i, k));
                        }
                    }
                    DUE.is(what + ": LIFE of " + p, x.life(p), y.life(p));
                    DUE.is(what + ": ROW that ends " + p, x.ends(p), y.ends(p));
                }
                break;
            default:
                for (int day = -1; day < 46; day++) {
                    for (int box = 0; box < 3; box++) {
                        DUE.is(what + ": HELD of " + box + " on " + day, x.held(box, day), y.held(box, day));
                    }
                }
                for (int c = 0; c < x.count(2); c++) {
                    DUE.is(what + ": last DAY of " + c, x.rest(c, 10, 5, 5), y.rest(c, 10, 5, 5));
                }
                for (int p = 0; p < 3; p++) {
                    int out = y.inPack(p, 0);
                    int in = y.about(13, 5) < 0 ? 13 : 10;
                    DUE.is(what + ": last DAY of PACK " + p, x.mend(p, out, in, 32), y.mend(p, out, in, 32));
                    DUE.is(what + ": one CELL", x.inPack(p, 0), y.inPack(p, 0));
                }
        }
    }

    private static void image() {
        DUE.by("HOUSE, CELLS, READINGS, RESTS, the RULE, PACKS and what was MENDED: they are as kept");
        for (int n = 1; n < 4; n++) {
            for (int part = 0; part < 2 * PARTS; part++) {
                DeadPacks x = busy(n);
                x.image(n % 2);
                fill(x);
                DUE.is("restore", x.restore(n % 2), true);
                DeadPacks y = busy(n);
                if (part >= PARTS) {
                    goOn(x);
                    goOn(y);
                }
                alike("kept " + n, part % PARTS, x, y);
            }
        }
    }

    private static void imageTwice() {
        DUE.by("they are as kept in place k: another one was kept there ahead, and one in the other place");
        for (int part = 0; part < PARTS; part++) {
            DeadPacks x = new DeadPacks();
            fill(x);
            x.image(0);
            x.image(1);
            DeadPacks y = busy(2);
            Due.tape(x, "bench a;bench b;box x;").house();
            x.image(0);
            DUE.is("restore", x.restore(1), true);
            DUE.is("CELLS", x.count(2), 24);
            DUE.is("restore", x.restore(0), true);
            DUE.is("CELLS", x.count(2), 0);
            DUE.is("no RULE", x.meets(-1), -1);
            DUE.is("BENCHES", x.count(0), 2);
            y.image(1);
            fill(y);
            y.image(0);
            y.restore(1);
            alike("the other place", part, y, busy(2));
        }
    }

    private static void newHouse() {
        DUE.by("A new HOUSE empties CELLS, READINGS, RESTS, the RULE, PACKS");
        DeadPacks x = new DeadPacks();
        fill(x);
        DeadPacks y = new DeadPacks();
        for (DeadPacks each : new DeadPacks[] {x, y}) {
            Due.tape(each, "bench a;bench b;bench c;box x;box y;box z;").house();
            for (int c = 0; c < 6; c++) {
                each.cell(c % 3);
            }
        }
        alike("six CELLS", 0, x, y);
        alike("six CELLS", 1, x, y);
        for (DeadPacks each : new DeadPacks[] {x, y}) {
            each.read(4, 0, 150, 50);
            each.read(2, 0, 160, 50);
            each.read(2, 1, 170, 50);
            Due.tape(each, 2, 4).pack(2, 1);
            each.rest(1, 0, 5, 5);
        }
        alike("a PACK", 1, x, y);
        alike("a PACK", 2, x, y);
    }

    private static void noLies() {
        DUE.by("LIES: 0 without RESTS; a new HOUSE empties RESTS");
        DeadPacks x = Due.housed("box x;");
        x.cell(0);
        x.rest(0, 50, 4200, 99);
        x.rest(0, 51, 0, 0);
        DUE.is("all three", x.lies(0), 7);
        Due.tape(x, "box x;").house();
        x.cell(0);
        DUE.is("a new CELL", x.lies(0), 0);
        x.rest(0, 1, 4000, 0);
        DUE.is("one REST", x.lies(0), 0);
        x.rest(0, 2, 4000, 0);
        DUE.is("two RESTS", x.lies(0), 0);
        DUE.is("FALL by the new ones", x.fall(0, 0), 0);
        DUE.is("DAYS by the new ones", x.fall(0, 1), 1);
    }

    private static void noLeans() {
        DUE.by("LEANS are 0, if not JOINED");
        DeadPacks x = Due.holding("bench a;bench b;box x;", new int[] {10}, new int[] {20});
        x.image(0);
        x.read(0, 1, 15, 27);
        DUE.is("in HOLD", x.lean(1, 0), 5);
        DUE.is("in PASS", x.lean(1, 1), 7);
        x.restore(0);
        for (int what = 0; what < 3; what++) {
            DUE.is("restored: lean(1, " + what + ")", x.lean(1, what), 0);
        }
        x.read(0, 1, 15, 27);
        DUE.is("in HOLD", x.lean(1, 0), 5);
        Due.tape(x, "bench a;bench b;box x;").house();
        for (int what = 0; what < 3; what++) {
            DUE.is("a new HOUSE: lean(1, " + what + ")", x.lean(1, what), 0);
        }
        x.cell(0);
        x.read(0, 1, 30, 30);
        DUE.is("shared with none", x.lean(1, 0), 0);
        DUE.is("so it has no TRUE HOLD", x.about(0, 1), -1);
    }

    private static void noOldCells() {
        DUE.by("BEST MEND: the CELL of the PACK (of what stood in those places ahead it has none)");
        DeadPacks x = Due.holding(Due.alike(150, 6), Due.alike(50, 6));
        Due.tape(x, 0, 1, 2, 3, 4, 5).pack(1, 0);
        Due.tape(x, "bench b;box x;").house();
        int[] holds = {150, 150, 150, 150, 400, 400, 100};
        for (int c = 0; c < 7; c++) {
            x.cell(0);
            x.read(c, 0, holds[c], 50);
        }
        Due.tape(x, 0, 1, 2, 3).pack(2, 0);
        int now = x.life(0);
        int told = Due.tape(x, 6).bestMend(0);
        DUE.is("worse than now", told < now, true);
        DUE.is("first place", x.bestBy(0), 0);
        x.mend(0, 0, 6, 0);
        DUE.is("so it is then", x.life(0), told);
    }
}
