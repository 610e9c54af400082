/** The tape, images, counts, what a new HOUSE leaves, what a throwing call leaves (promises 1 to 3, 42 to 44, and the last line). */
public final class StateEdgeTest {
    private static final Due DUE = new Due();
    private static final int[] FAR = {Integer.MIN_VALUE, Integer.MAX_VALUE};

    public static void main(String[] args) {
        newObject();
        feedOrder();
        feedFull();
        endEdges();
        emptyThen();
        tapeStays();
        houseEmpties();
        houseLeaves();
        houseRefused();
        ruleRefused();
        throwsNothingChanged();
        imagePlaces();
        restoreNothing();
        restoreAll();
        restoreLeaves();
        imageIsApart();
        countEdges();
        manyCalls();
        DUE.finish();
    }

    private static void newObject() {
        DUE.by("An empty HOUSE, no WELDS; an empty tape");
        DeadPacks x = new DeadPacks();
        for (int what = 0; what < 9; what++) {
            DUE.is("count(" + what + ")", x.count(what), 0);
        }
        DUE.is("no RULE", x.meets(-1), -1);
        DUE.is("no strips", x.order(), 0);
        DUE.is("no image", x.restore(0), false);
        DUE.is("no image", x.restore(1), false);
        DUE.is("an empty HOUSE of it", x.house(), 0);
        DUE.is("empty WELDS of it", x.welds(), 0);
        DUE.is("an empty list", x.check(), -1);
        DUE.is("no RULE of it", x.rule(), -1);
        DUE.is("no fault but that", x.fault(), 1);
        // each object by itself
        DeadPacks y = new DeadPacks();
        x.feed(1, 2, 3, 4, 5);
        x.image(0);
        DUE.is("another tape", y.count(8), 0);
        DUE.is("another image", y.restore(0), false);
        DUE.is("another fault", y.fault(), 0);
    }

    private static void feedOrder() {
        DUE.by("Twenty bytes come behind the tape, of each number the highest first");
        DeadPacks x = new DeadPacks();
        // hours told by bytes: 1 2 3 4, ..
        DUE.is("20", x.feed(0x01020304, 0x05060708, 0x09000000, 0, 0), 20);
        x.end(9);
        DUE.is("SHARE of 1 to 9", x.share(1), 45);
        // each byte of each number in its place: the PACK tells them again
        DeadPacks y = Due.holding(Due.alike(5, 60), Due.alike(5, 60));
        DUE.is("20", y.feed(0x3b000102, 0x20212223, 0x07060504, 0x3a39380a, 0x0f0d0b09), 20);
        DUE.is("PACK", y.pack(1, 0), 0);
        int[] due = {59, 0, 1, 2, 32, 33, 34, 35, 7, 6, 5, 4, 58, 57, 56, 10, 15, 13, 11, 9};
        for (int i = 0; i < 20; i++) {
            DUE.is("byte " + i, y.inPack(0, i), due[i]);
        }
        y.feed(0x08101112, 0, 0, 0, 0);
        y.end(4);
        y.feed(0x13141516, 0, 0, 0, 0);
        y.end(8);
        DUE.is("PACK", y.pack(1, 0), 1);
        int[] then = {8, 16, 17, 18, 19, 20, 21, 22};
        for (int i = 0; i < 8; i++) {
            DUE.is("byte " + i, y.inPack(1, i), then[i]);
        }
        // a law's digits straddle two calls
        DUE.is("20", x.feed(0x20202020, 0x20202020, 0x20202020, 0x20206e6f, 0x69736520), 20);
        DUE.is("40", x.feed(0x39393b20, 0x20202020, 0x20202020, 0x20202020, 0x20202020), 40);
        DUE.is("noise 99", x.house(), 1);
        DUE.is("noise 99", x.days(1), 199);
        // numbers below 0 have a highest byte above 127
        x.feed(-1, -1, -1, -1, -1);
        x.end(1);
        DUE.is("byte 255", x.share(1), -1);
        x.feed(0x80000000, 0, 0, 0, 0);
        x.end(1);
        DUE.is("byte 128", x.share(1), -1);
        x.feed(0x63000000, 0, 0, 0, 0);
        x.end(1);
        DUE.is("byte 99", x.share(1), 99);
    }

    private static void feedFull() {
        DUE.by("how many it has; NONE, and none come, if it would have more than 540");
        DeadPacks x = new DeadPacks();
        for (int i = 1; i <= 26; i++) {
            DUE.is("feed", x.feed(0, 0, 0, 0, 0), 20 * i);
        }
        DUE.is("520 and 20", x.feed(0x63000000, 0, 0, 0, 0), 540);
        DUE.is("540 and 20", x.feed(1, 1, 1, 1, 1), -1);
        DUE.is("540", x.count(8), 540);
        x.end(521);
        DUE.is("521 and 20", x.feed(1, 1, 1, 1, 1), -1);
        DUE.is("521", x.count(8), 521);
        x.end(520);
        DUE.is("520 and 20", x.feed(1, 1, 1, 1, 1), 540);
        x.end(519);
        DUE.is("519 and 20", x.feed(1, 1, 1, 1, 1), 539);
        DUE.is("539 and 20", x.feed(1, 1, 1, 1, 1), -1);
        // none come: not even those for which there is room
        x.end(0);
        for (int i = 1; i <= 26; i++) {
            x.feed(0x20202020, 0x20202020, 0x20202020, 0x20202020, 0x20202020);
        }
        x.feed(0x20202020, 0x20202020, 0x20202020, 0x20202020, 0x20202020);
        x.end(530);
        DUE.is("530 and 20", x.feed(0x3f3f3f3f, 0, 0, 0, 0), -1);
        DUE.is("no FAULT but that of 500", x.house(), -501);
    }

    private static void endEdges() {
        DUE.by("The tape has its first n bytes alone: true; false, if it has not so many, or n is below 0");
        DeadPacks x = new DeadPacks();
        DUE.is("0 of 0", x.end(0), true);
        DUE.is("1 of 0", x.end(1), false);
        x.feed(0x05060708, 0, 0, 0, 0);
        DUE.is("21 of 20", x.end(21), false);
        DUE.is("-1 of 20", x.end(-1), false);
        for (int far : FAR) {
            DUE.is("far", x.end(far), false);
        }
        DUE.is("20 left", x.count(8), 20);
        DUE.is("20 of 20", x.end(20), true);
        DUE.is("19 of 20", x.end(19), true);
        DUE.is("20 of 19", x.end(20), false);
        DUE.is("3 of 19", x.end(3), true);
        DUE.is("the first three", x.share(1), 18);
        DUE.is("1 of none", x.end(1), false);
        DUE.is("behind what is left", x.feed(0x01010000, 0, 0, 0, 0), 20);
        x.end(1);
        x.feed(0x02020000, 0, 0, 0, 0);
        x.end(3);
        DUE.is("1 2 2", x.share(1), 5);
        Due.tape(x, 5, 6, 7, 0, 255);
        x.end(3);
        DUE.is("0 and 255 are behind it", x.share(1), 18);
        DeadPacks y = packed();
        Due.tape(y, 50, 50, 200, 200);
        y.end(2);
        DUE.is("200 is behind it", y.balance(0) >= 0, true);
        Due.tape(y, 3, 3, 3);
        y.end(1);
        DUE.is("3 again is behind it", y.most(1, 1, 1), 1);
        Due.tape(y, 0, 0);
        y.end(1);
        DUE.is("0 again is behind it", y.check(), -1);
    }

    private static DeadPacks packed() {
        DeadPacks x = Due.holding("bench a;bench d;box x;box y;", new int[] {150, 160, 170, 180, 190, 200},
                Due.alike(50, 6));
        x.read(0, 1, 155, 55);
        x.rest(0, 3, 4000, 20);
        x.rest(0, 9, 3990, 20);
        Due.tape(x, "not used").rule();
        Due.tape(x, 0, 1).pack(2, 10);
        x.mend(0, 1, 2, 20);
        Due.tape(x, "strip a 0+1+;").welds();
        return x;
    }

    /** A call that reads the tape, by number; those that are not as told too. */
    private static int reading(DeadPacks x, int call, boolean good) {
        int s = good ? 1 : 0;
        switch (call) {
            case 0:
                return Due.tape(x, good ? "bench a;box x;" : "?").house();
            case 1:
                return Due.tape(x, good ? "used" : "?").rule();
            case 2:
                return Due.tape(x, 3, 4).rows(s);
            case 3:
                return Due.tape(x, 3, 4).swaps(s);
            case 4:
                return Due.tape(x, 3, 4).most(s, 1, 1);
            case 5:
                return Due.tape(x, 3, 4).share(s);
            case 6:
                return Due.tape(x, 3, 4).pack(s, 5);
            case 7:
                return Due.tape(x, 3, 4).bestMend(s - 1);
            case 8:
                return Due.tape(x, 3, 4).balance(s - 1);
            case 9:
                return Due.tape(x, good ? "strip a 0+1+;" : "?").welds();
            default:
                return Due.tape(x, good ? 0 : 1).check() + s;
        }
    }

    private static void emptyThen() {
        DUE.by("The tape (empty then, here and below)");
        for (int call = 0; call <= 10; call++) {
            DeadPacks x = packed();
            DUE.is("refused " + call, reading(x, call, false) < (call == 10 ? 1 : 0), true);
            DUE.is("empty then " + call, x.count(8), 0);
            DUE.is("empty then " + call, x.end(1), false);
            DeadPacks y = packed();
            DUE.is("good " + call, reading(y, call, true) >= 0, true);
            DUE.is("empty then " + call, y.count(8), 0);
        }
    }

    private static void tapeStays() {
        DUE.by("calls that do not read the tape leave it");
        DeadPacks x = packed();
        Due.tape(x, 5, 6, 7);
        x.fault();
        x.cell(0);
        x.cell(9);
        x.read(5, 0, 5, 5);
        x.rest(1, 5, 5, 5);
        x.lean(0, 0);
        x.about(0, 1);
        x.again();
        x.fall(0, 0);
        x.lies(0);
        x.days(5);
        x.meets(-1);
        x.rowAt(0);
        x.rowsBy(0);
        x.swapAt(0);
        x.swapsBy(0);
        x.shareAt(0);
        x.row(0, 0, 0);
        x.inPack(0, 0);
        x.life(0);
        x.ends(0);
        x.mend(0, 0, 4, 50);
        x.bestBy(0);
        x.lost();
        x.shorted(0);
        x.held(0, 5);
        x.order();
        x.orderAt(0);
        x.image(0);
        x.restore(0);
        x.count(8);
        DUE.is("three", x.count(8), 3);
        DUE.is("5 6 7", x.share(1), 18);
    }

    private static void houseEmpties() {
        DUE.by("A new HOUSE empties CELLS, READINGS, RESTS, the RULE, PACKS");
        DeadPacks x = packed();
        int[] was = {2, 2, 6, 7, 2, 1, 1, 1, 0};
        for (int what = 0; what < 9; what++) {
            DUE.is("ahead: count(" + what + ")", x.count(what), was[what]);
        }
        DUE.is("the same text again", Due.tape(x, "bench a;bench d;box x;box y;").house(), 4);
        int[] then = {2, 2, 0, 0, 0, 0, 0, 1, 0};
        for (int what = 0; what < 9; what++) {
            DUE.is("count(" + what + ")", x.count(what), then[what]);
        }
        DUE.is("no RULE", x.meets(-1), -1);
        DUE.is("no CELL", x.lies(0), -1);
        DUE.throwsNoSuch("no CELL", () -> x.about(0, 0));
        DUE.throwsNoSuch("no RESTS", () -> x.fall(0, 0));
        DUE.throwsNoSuch("no PACK", () -> x.row(0, 0, 0));
        DUE.is("no PACK", x.life(0), -1);
        DUE.is("no PACK", x.held(0, -1), 0);
        DUE.is("AGAIN", x.again(), -1);
        DUE.is("BENCH 1 is not JOINED", x.lean(1, 2), 0);
        DUE.is("numbers begin anew: CELL", x.cell(1), 0);
        DUE.is("its BOX", x.about(0, 0), 1);
        DUE.is("not TRUE", x.about(0, 1), -1);
        DUE.is("in no PACK", x.about(0, 5), -1);
        DUE.is("numbers begin anew: READING", x.read(0, 0, 5, 5), 0);
        DUE.is("a DAY sooner than the old ones", x.rest(0, 0, 5, 5), 0);
        DUE.throwsNoSuch("one REST", () -> x.fall(0, 0));
        x.cell(0);
        x.read(1, 0, 7, 5);
        DUE.is("numbers begin anew: PACK", Due.tape(x, 0, 1).pack(1, 0), 0);
        DUE.is("HELD", x.held(1, 0), 1);
        x.cell(0);
        x.read(2, 0, 7, 5);
        DUE.is("a DAY sooner than the old ones", x.mend(0, 1, 2, 0), true);
        DUE.is("MENDED", x.count(6), 1);
        Due.tape(x, "").house();
        DUE.is("an empty one", x.count(0) + x.count(1) + x.count(2), 0);
    }

    /** What calls told last, one number for each. */
    private static int[] told(DeadPacks x) {
        return new int[] {x.rowAt(0), x.rowAt(1), x.rowsBy(0), x.rowsBy(1), x.swapAt(0), x.swapAt(1), x.swapsBy(0),
            x.swapsBy(1), x.swapsBy(2), x.shareAt(0), x.shareAt(1), x.bestBy(0), x.bestBy(1), x.lost(), x.orderAt(0),
            x.orderAt(1)};
    }

    private static DeadPacks tellingAll() {
        DeadPacks x = packed();
        Due.tape(x, 3, 5).rows(2);
        Due.tape(x, 3, 5).swaps(2);
        Due.tape(x, 3, 5).share(2);
        Due.tape(x, 3, 5).bestMend(0);
        Due.tape(x, 90, 100).balance(0);
        x.order();
        return x;
    }

    private static void same(String what, int[] got, int[] due) {
        for (int i = 0; i < due.length; i++) {
            DUE.is(what + ": told " + i, got[i], due[i]);
        }
    }

    private static void houseLeaves() {
        DUE.by("A new HOUSE: WELDS stay, images stay, what calls told last stays");
        DeadPacks x = tellingAll();
        int[] due = told(x);
        int[] want = {0, 1, 20, 0, 1, 0, 190, 0, 20, 0, 1, 0, 3, 35, 0, -1};
        same("ahead", due, want);
        x.image(0);
        Due.tape(x, "box z;").house();
        same("then", told(x), want);
        DUE.is("WELDS", x.count(7), 1);
        DUE.is("check", Due.tape(x, 0).check(), -1);
        DUE.is("an image stays", x.restore(0), true);
        DUE.is("its CELLS", x.count(2), 6);
        DUE.is("its MENDED", x.count(6), 1);
        same("then", told(x), want);
    }

    private static void houseRefused() {
        DUE.by("-1 less the place of a FAULT: it stays");
        DeadPacks x = packed();
        DUE.is("refused", Due.tape(x, "bench z;noise 50;box a;box a;").house(), -1 - 27);
        int[] was = {2, 2, 6, 7, 2, 1, 1, 1, 0};
        for (int what = 0; what < 9; what++) {
            DUE.is("count(" + what + ")", x.count(what), was[what]);
        }
        DUE.is("its laws", x.days(4), 2);
        DUE.is("the RULE", x.meets(-1), 4);
        DUE.is("NAMES", Due.tape(x, "in y").rule(), 1);
        DUE.is("NAMES", Due.tape(x, "in a").rule(), -4);
    }

    private static void ruleRefused() {
        DUE.by("rule: -1 less the place of a FAULT: it stays");
        DeadPacks x = packed();
        DUE.is("refused", Due.tape(x, "used and in q").rule(), -1 - 12);
        DUE.is("fault", x.fault(), 3);
        DUE.is("it stays", x.meets(-1), 4);
        DUE.is("it stays", x.meets(0), 1);
        DUE.is("another", Due.tape(x, "used").rule(), 1);
        DUE.is("it is the RULE now", x.meets(-1), 2);
    }

    private static void throwsNothingChanged() {
        DUE.by("A call that throws changes nothing");
        DeadPacks x = tellingAll();
        Due.tape(x, "?").welds();
        Due.tape(x, 5, 6, 7);
        int[] due = told(x);
        for (int bad : new int[] {-1, 6, 60, Integer.MIN_VALUE, Integer.MAX_VALUE}) {
            DUE.throwsNoSuch("lean", () -> x.lean(bad, 0));
            DUE.throwsNoSuch("lean", () -> x.lean(0, bad));
            DUE.throwsNoSuch("about", () -> x.about(bad, 1));
            DUE.throwsNoSuch("about", () -> x.about(0, bad));
            DUE.throwsNoSuch("fall", () -> x.fall(bad, 0));
            DUE.throwsNoSuch("fall", () -> x.fall(0, bad));
            DUE.throwsNoSuch("row", () -> x.row(bad, 0, 0));
            DUE.throwsNoSuch("row", () -> x.row(0, bad, 0));
            DUE.throwsNoSuch("row", () -> x.row(0, 0, bad));
        }
        same("then", told(x), due);
        int[] was = {2, 2, 6, 7, 2, 1, 1, 1, 3};
        for (int what = 0; what < 9; what++) {
            DUE.is("count(" + what + ")", x.count(what), was[what]);
        }
        DUE.is("fault", x.fault(), 1);
        DUE.is("the RULE", x.meets(-1), 4);
        DUE.is("the tape", x.share(1), 18);
        DUE.is("LEAN", x.lean(1, 0), 5);
        DUE.is("FALL", x.fall(0, 0), 5);
        DUE.is("LIFE", x.life(0), x.row(0, 0, 2));
    }

    private static void imagePlaces() {
        DUE.by("are kept in place k (0, 1): true; false: no such one");
        DeadPacks x = Due.housed("box x;");
        DUE.is("-1", x.image(-1), false);
        DUE.is("2", x.image(2), false);
        for (int far : FAR) {
            DUE.is("far", x.image(far), false);
            DUE.is("far", x.restore(far), false);
        }
        DUE.is("0 is empty yet", x.restore(0), false);
        DUE.is("1 is empty yet", x.restore(1), false);
        DUE.is("0", x.image(0), true);
        x.cell(0);
        DUE.is("1", x.image(1), true);
        x.cell(0);
        DUE.is("restore 0", x.restore(0), true);
        DUE.is("none", x.count(2), 0);
        DUE.is("restore 1", x.restore(1), true);
        DUE.is("one", x.count(2), 1);
        x.cell(0);
        DUE.is("1 anew", x.image(1), true);
        DUE.is("restore 0", x.restore(0), true);
        DUE.is("restore 1", x.restore(1), true);
        DUE.is("two", x.count(2), 2);
    }

    private static void restoreNothing() {
        DUE.by("restore: false: no such one, or nothing is kept there");
        DeadPacks x = packed();
        DUE.is("-1", x.restore(-1), false);
        DUE.is("2", x.restore(2), false);
        DUE.is("0", x.restore(0), false);
        DUE.is("1", x.restore(1), false);
        int[] was = {2, 2, 6, 7, 2, 1, 1, 1, 0};
        for (int what = 0; what < 9; what++) {
            DUE.is("count(" + what + ")", x.count(what), was[what]);
        }
        x.image(1);
        DUE.is("0, only 1 is kept", x.restore(0), false);
        DUE.is("1", x.restore(1), true);
        DUE.is("again, it is still kept", x.restore(1), true);
    }

    private static void restoreAll() {
        DUE.by("HOUSE, CELLS, READINGS, RESTS, the RULE, PACKS and what was MENDED; they are as kept");
        DeadPacks x = packed();
        x.image(0);
        Due.tape(x, "bench q;box q;box r;box s;noise 50;leak 1;floor 999;").house();
        x.cell(2);
        x.cell(2);
        x.read(0, 0, 5, 5);
        x.read(1, 0, 5, 5);
        x.rest(0, 50, 5, 5);
        Due.tape(x, "in s").rule();
        Due.tape(x, 0, 1).pack(1, 500);
        x.restore(0);
        int[] was = {2, 2, 6, 7, 2, 1, 1, 1, 0};
        for (int what = 0; what < 9; what++) {
            DUE.is("count(" + what + ")", x.count(what), was[what]);
        }
        DUE.is("laws", x.days(4), 2);
        DUE.is("NAMES", Due.tape(x, "in y").rule(), 1);
        x.restore(0);
        DUE.is("the RULE", x.meets(-1), 4);
        DUE.is("BOX", x.about(5, 0), 0);
        DUE.is("LEAN", x.lean(1, 1), 5);
        DUE.is("TRUE HOLD", x.about(0, 1), 150);
        DUE.is("FALL", x.fall(0, 0), 5);
        DUE.is("FALL", x.fall(0, 1), 3);
        DUE.is("the last REST's DAY", x.rest(0, 9, 5, 5), -1);
        DUE.is("PACK", x.inPack(0, 1), 2);
        DUE.is("CELLS in it", x.about(2, 5), 0);
        DUE.is("CELLS out of it", x.about(1, 5), -1);
        DUE.is("LIFE", x.life(0), x.row(0, 0, 2));
        DUE.is("the last DAY", x.mend(0, 2, 1, 19), false);
        DUE.is("HELD", x.held(0, 10), 1);
        DUE.is("HELD", x.held(0, 9), 0);
        DUE.is("one READING more", x.read(0, 0, 5, 5), 7);
        x.restore(0);
        DUE.is("and none of it", x.count(3), 7);
        DUE.is("TRUE HOLD", x.about(0, 1), 150);
    }

    private static void restoreLeaves() {
        DUE.by("WELDS, the tape, and what other calls told last, stay");
        DeadPacks x = packed();
        x.image(0);
        DeadPacks y = tellingAll();
        int[] due = told(y);
        y.image(1);
        Due.tape(y, "strip a 0+1+;strip b 2+3+;").welds();
        Due.tape(y, "?").house();
        Due.tape(y, 5, 6, 7);
        DUE.is("restore", y.restore(1), true);
        same("then", told(y), due);
        DUE.is("WELDS", y.count(7), 2);
        DUE.is("the tape", y.count(8), 3);
        DUE.is("fault", y.fault(), 1);
        DUE.is("5 6 7", y.share(1), 18);
    }

    private static void imageIsApart() {
        DUE.by("what is kept does not change with what is done later");
        DeadPacks x = packed();
        x.image(0);
        for (int round = 0; round < 3; round++) {
            x.cell(1);
            x.read(3, 0, 1, 1);
            x.read(0, 1, 300, 300);
            x.rest(0, 50, 1, 99);
            x.mend(0, 2, 4, 400);
            Due.tape(x, 1, 3).pack(1, 300);
            Due.tape(x, "cell = 0").rule();
            DUE.is("changed", x.meets(-1), 1);
            x.restore(0);
            DUE.is("CELLS", x.count(2), 6);
            DUE.is("READINGS", x.count(3), 7);
            DUE.is("RESTS", x.count(4), 2);
            DUE.is("PACKS", x.count(5), 1);
            DUE.is("MENDED", x.count(6), 1);
            DUE.is("TRUE", x.about(3, 1), 180);
            DUE.is("LIES", x.lies(0), 0);
            DUE.is("in the PACK", x.inPack(0, 1), 2);
            DUE.is("in no PACK", x.about(3, 5), -1);
            DUE.is("the RULE", x.meets(-1), 4);
        }
    }

    private static void countEdges() {
        DUE.by("count: 0 to 8; NONE for another what");
        DeadPacks x = packed();
        Due.tape(x, 1, 2, 3);
        int[] due = {-1, -1, 2, 2, 6, 7, 2, 1, 1, 1, 3, -1, -1};
        for (int what = -2; what <= 10; what++) {
            DUE.is("count(" + what + ")", x.count(what), due[what + 2]);
        }
        for (int far : FAR) {
            DUE.is("far", x.count(far), -1);
        }
    }

    private static void manyCalls() {
        DUE.by("An object is used for at most 512 calls");
        DeadPacks x = new DeadPacks();
        for (int i = 0; i < 255; i++) {
            x.feed(0x62656e63, 0x6820613b, 0x626f7820, 0x783b2020, 0x20202020);
            DUE.is("house", x.house(), 2);
        }
        DUE.is("the 511th", x.cell(0), 0);
        DUE.is("the 512th", x.read(0, 0, 400, 999), 0);
    }
}
