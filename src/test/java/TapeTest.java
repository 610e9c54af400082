/** Promises 1, 2, 3 and 44. */
public final class TapeTest {
    private static final Due DUE = new Due();

    public static void main(String[] args) {
        fresh();
        feeding();
        ending();
        counting();
        DUE.finish();
    }

    private static void fresh() {
        DeadPacks x = new DeadPacks();
        for (int what = 0; what <= 8; what++) {
            DUE.is("new count(" + what + ")", x.count(what), 0);
        }
        DUE.is("new fault", x.fault(), 0);
        DUE.is("new order", x.order(), 0);
        DUE.is("new orderAt", x.orderAt(0), -1);
        DUE.is("new check", x.check(), -1);
        DUE.is("new cell", x.cell(0), -1);
        DUE.is("usual noise", x.days(4), 2);
        DUE.is("new lost", x.lost(), -1);
        DUE.is("new bestBy 0", x.bestBy(0), -1);
        DUE.is("new bestBy 1", x.bestBy(1), -1);
        DUE.is("NONE", DeadPacks.NONE, -1);
    }

    private static void feeding() {
        DeadPacks x = new DeadPacks();
        // the highest byte first: "box " "a;" and more
        DUE.is("feed", x.feed(0x626f7820, 0x613b0000, 0, 0, 0), 20);
        DUE.is("end", x.end(6), true);
        DUE.is("house", x.house(), 1);
        DUE.is("house emptied the tape", x.count(8), 0);
        for (int i = 1; i <= 27; i++) {
            DUE.is("feed " + i, x.feed(0x20202020, 0x20202020, 0x20202020, 0x20202020, 0x20202020), 20 * i);
        }
        DUE.is("feed beyond 540", x.feed(1, 2, 3, 4, 5), -1);
        DUE.is("none came", x.count(8), 540);
        DUE.is("end 521", x.end(521), true);
        DUE.is("feed beyond 540 by one", x.feed(1, 2, 3, 4, 5), -1);
        DUE.is("none came", x.count(8), 521);
        DUE.is("end 520", x.end(520), true);
        DUE.is("feed up to 540", x.feed(0, 0, 0, 0, 0), 540);
        // bytes above 127 are bytes like others
        Due.tape(x, 'b', 'o', 'x', 225, 'a', ';');
        DUE.is("byte 225", x.house(), -4);
    }

    private static void ending() {
        DeadPacks x = new DeadPacks();
        DUE.is("end 0 of 0", x.end(0), true);
        DUE.is("end 1 of 0", x.end(1), false);
        x.feed(0, 0, 0, 0, 0);
        DUE.is("end -1", x.end(-1), false);
        DUE.is("end 21", x.end(21), false);
        DUE.is("as it was", x.count(8), 20);
        DUE.is("end 20", x.end(20), true);
        DUE.is("end 7", x.end(7), true);
        DUE.is("cut", x.count(8), 7);
        DUE.is("end 8", x.end(8), false);
        DUE.is("feed behind", x.feed(0, 0, 0, 0, 0), 27);
        DUE.is("end least", x.end(Integer.MIN_VALUE), false);
        DUE.is("end most", x.end(Integer.MAX_VALUE), false);
    }

    private static void counting() {
        DeadPacks x = Due.housed("bench a;bench b;box x;box y;box z;");
        DUE.is("benches", x.count(0), 2);
        DUE.is("boxes", x.count(1), 3);
        for (int c = 0; c < 5; c++) {
            x.cell(0);
            x.read(c, 0, 50, 50);
        }
        x.read(0, 1, 50, 50);
        x.rest(0, 1, 4000, 20);
        x.rest(0, 2, 4000, 20);
        x.rest(1, 2, 4000, 20);
        DUE.is("cells", x.count(2), 5);
        DUE.is("readings", x.count(3), 6);
        DUE.is("rests", x.count(4), 3);
        Due.tape(x, 0, 1).pack(1, 0);
        Due.tape(x, 2, 3).pack(1, 0);
        x.mend(0, 0, 4, 0);
        DUE.is("packs", x.count(5), 2);
        DUE.is("mended", x.count(6), 1);
        Due.tape(x, "strip a 0+1+;strip b 1+2+;strip c 1+3+;strip d 3+4+;").welds();
        DUE.is("strips", x.count(7), 4);
        Due.tape(x, 1, 2, 3);
        DUE.is("bytes", x.count(8), 3);
        DUE.is("count 9", x.count(9), -1);
        DUE.is("count -1", x.count(-1), -1);
        DUE.is("count most", x.count(Integer.MAX_VALUE), -1);
    }
}
