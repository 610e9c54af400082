/** Promises 42 and 43. */
public final class ImageTest {
    private static final Due DUE = new Due();

    public static void main(String[] args) {
        places();
        keeping();
        staying();
        DUE.finish();
    }

    private static void places() {
        DeadPacks x = new DeadPacks();
        DUE.is("nothing is kept", x.restore(0), false);
        DUE.is("nothing is kept", x.restore(1), false);
        DUE.is("no such place", x.image(2), false);
        DUE.is("no such place", x.image(-1), false);
        DUE.is("no such place", x.restore(2), false);
        DUE.is("no such place", x.restore(-1), false);
        DUE.is("image 1", x.image(1), true);
        DUE.is("nothing is kept in 0", x.restore(0), false);
        Due.tape(x, "bench a;box b;noise 50;").house();
        x.cell(0);
        DUE.is("image 0", x.image(0), true);
        DUE.is("restore 1", x.restore(1), true);
        DUE.is("empty", x.count(1), 0);
        DUE.is("empty", x.count(2), 0);
        DUE.is("usual laws", x.days(1), 5);
        DUE.is("restore 0", x.restore(0), true);
        DUE.is("back", x.count(2), 1);
        DUE.is("laws", x.days(1), 101);
        x.cell(0);
        DUE.is("image 0 anew", x.image(0), true);
        DUE.is("restore 1", x.restore(1), true);
        DUE.is("restore 0", x.restore(0), true);
        DUE.is("the newer one", x.count(2), 2);
    }

    private static DeadPacks busy() {
        DeadPacks x = Due.housed("bench a;bench b;box x;box y;leak 1;jump 1;warm 90;");
        for (int c = 0; c < 6; c++) {
            x.cell(c % 2);
            x.read(c, 0, 100 + c, 50);
        }
        x.read(0, 1, 105, 55);
        x.rest(0, 0, 4000, 5);
        x.rest(0, 10, 3980, 5);
        Due.tape(x, "in y and not used").rule();
        Due.tape(x, 0, 1, 2, 3).pack(2, 10);
        x.mend(0, 3, 4, 20);
        return x;
    }

    private static void asBusy(DeadPacks x) {
        int[] counts = {2, 2, 6, 7, 2, 1, 1};
        for (int what = 0; what < counts.length; what++) {
            DUE.is("count(" + what + ")", x.count(what), counts[what]);
        }
        DUE.is("lean", x.lean(1, 0), 5);
        DUE.is("TRUE", x.about(0, 1), 100);
        DUE.is("TRUE", x.about(5, 1), 105);
        DUE.is("box", x.about(5, 0), 1);
        DUE.is("fall", x.fall(0, 0), 2);
        DUE.is("lies", x.lies(0), 3);
        DUE.is("day of the last REST", x.rest(0, 10, 1, 1), -1);
        DUE.is("meets", x.meets(-1), 2);
        DUE.is("meets", x.meets(0), 3);
        DUE.is("in the PACK", x.inPack(0, 3), 4);
        DUE.is("out of it", x.about(3, 5), -1);
        DUE.is("in it", x.about(4, 5), 0);
        DUE.is("row", x.row(0, 1, 0), 102 + 104);
        DUE.is("held", x.held(1, 15), 1);
        DUE.is("day of the last mending", x.mend(0, 4, 3, 19), false);
    }

    private static void keeping() {
        DeadPacks x = busy();
        asBusy(x);
        x.image(0);
        asBusy(x);
        x.read(0, 1, 300, 300);
        x.read(1, 1, 300, 300);
        x.rest(0, 20, 4000, 95);
        x.cell(1);
        Due.tape(x, 3, 5).pack(1, 30);
        x.mend(0, 0, 1, 30);
        x.mend(1, 3, 4, 30);
        Due.tape(x, "lies").rule();
        DUE.is("restore", x.restore(0), true);
        asBusy(x);
        Due.tape(x, "box z;").house();
        x.cell(0);
        DUE.is("restore", x.restore(0), true);
        asBusy(x);
        // what is done after a restore is not done to what is kept
        x.mend(0, 4, 3, 30);
        x.rest(0, 30, 4000, 5);
        DUE.is("restore", x.restore(0), true);
        asBusy(x);
        x.image(1);
        Due.tape(x, "").house();
        x.image(0);
        x.restore(1);
        asBusy(x);
        x.restore(0);
        DUE.is("emptied", x.count(2), 0);
        DUE.is("no RULE", x.meets(-1), -1);
    }

    private static void staying() {
        DeadPacks x = busy();
        x.image(0);
        Due.tape(x, "strip a 0+1+;strip b 1+2+;").welds();
        x.order();
        Due.tape(x, 3, 5).rows(2);
        Due.tape(x, 5, 3, 4).swaps(3);
        Due.tape(x, 5, 3).share(2);
        Due.tape(x, 5, 3).bestMend(0);
        int out = x.bestBy(0);
        int in = x.bestBy(1);
        Due.tape(x, 100, 99).balance(0);
        int lost = x.lost();
        Due.tape(x, "x").house();
        Due.tape(x, 1, 2, 3);
        x.restore(0);
        DUE.is("strips", x.count(7), 2);
        DUE.is("order", x.orderAt(1), 1);
        DUE.is("rows", x.rowAt(1), 1);
        DUE.is("rowsBy", x.rowsBy(0), 2);
        DUE.is("swaps", x.swapAt(1), 2);
        DUE.is("swapsBy", x.swapsBy(0), 104);
        DUE.is("share", x.shareAt(1), 1);
        DUE.is("best out", x.bestBy(0), out);
        DUE.is("best in", x.bestBy(1), in);
        DUE.is("lost", x.lost(), lost);
        DUE.is("fault", x.fault(), 1);
        DUE.is("tape", x.count(8), 3);
    }
}
