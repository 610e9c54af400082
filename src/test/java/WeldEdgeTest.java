import java.util.Arrays;

/** Section 5: the edges of SHORTS, ORDER and check, each sentence by itself (promises 38 to 41). */
public final class WeldEdgeTest {
    private static final Due DUE = new Due();
    private static final int[] FAR = {Integer.MIN_VALUE, Integer.MAX_VALUE};

    public static void main(String[] args) {
        lifts();
        hangTogether();
        higher();
        aheadOfIt();
        nearTwo();
        nearBeingDone();
        nearToOthers();
        weldsStay();
        weldsAhead();
        behindAfter();
        firstByNumbers();
        noOrder();
        orderAtLatest();
        checkAll();
        checkNoStrip();
        checkToldAhead();
        checkAfter();
        checkShorts();
        checkLeft();
        checkFirst();
        DUE.finish();
    }

    private static DeadPacks welded(String text) {
        DeadPacks x = new DeadPacks();
        DUE.is("welds of " + text, Due.tape(x, text).welds() >= 0, true);
        return x;
    }

    private static void order(String text, int... due) {
        DeadPacks x = welded(text);
        DUE.is("order of " + text, x.order(), due.length);
        for (int k = 0; k < due.length; k++) {
            DUE.is("orderAt(" + k + ") of " + text, x.orderAt(k), due[k]);
        }
        DUE.is("check of it", Due.tape(x, due).check(), -1);
    }

    private static void none(String text) {
        DUE.is("order of " + text, welded(text).order(), -1);
    }

    private static void check(String text, int due, int... bytes) {
        DeadPacks x = welded(text);
        DUE.is("check of " + Arrays.toString(bytes) + " by " + text, Due.tape(x, bytes).check(), due);
        DUE.is("the tape is empty then", x.count(8), 0);
    }

    private static void lifts() {
        DUE.by("Each CELL lifts by 1 from its - to its +");
        none("strip a 0+0-;");
        none("strip a 0-0+;");
        order("strip a 0+0+;", 0);
        order("strip a 0-0-;", 0);
        order("strip a 59-59-;", 0);
        none("strip a 59+59-;");
        DUE.by("its CELL's own ends as near: 1 is not 2");
        order("strip a 0+1+ near 0+0-;", 0);
        order("strip a 0+1+ near 0-0+ near 1-1+;", 0);
    }

    private static void hangTogether() {
        DUE.by("NODES hang together by CELLS and by strips done (strips lift by 0)");
        // a: 0+ 1-, so 1+ is 2 above 0-
        none("strip a 0+1-;strip b 1+0-;");
        none("strip a 0+1-;strip b 1+0+;");
        none("strip a 0+1-;strip b 1-0-;");
        order("strip a 0+1-;strip b 1-0+;", 0, 1);
        order("strip a 0+1-;strip b 2+3-;", 0, 1);
        // side by side: nothing is lifted
        order("strip a 0+1+;strip b 0-1-;", 0, 1);
        none("strip a 0+1+;strip b 0-1+;");
        none("strip a 0+1+;strip b 0+1-;");
        // by many: up by 12, and round to where it began
        StringBuilder up = new StringBuilder();
        for (int k = 0; k < 11; k++) {
            up.append("strip ").append((char) ('a' + k)).append(' ').append(k).append('+').append(k + 1).append("-;");
        }
        order(up + "strip z 0-20+;", 0, 1, 2, 3, 4, 5, 6, 7, 8, 9, 10, 11);
        none(up + "strip z 0-11+;");
        none(up + "strip z 0-1-;");
        order(up + "strip z 0+1-;", 0, 1, 2, 3, 4, 5, 6, 7, 8, 9, 10, 11);
    }

    private static void higher() {
        DUE.by("A strip SHORTS, if its NODES hang together ahead of it, one higher than the other");
        // as high: no SHORT, by 1 either way: SHORT
        order("strip a 0+1+;strip b 1-0-;strip c 0+1+;", 0, 1, 2);
        none("strip a 0+1+;strip b 1-0+;");
        none("strip a 0+1+;strip b 1+0-;");
        order("strip a 0+1-;strip b 1+2-;strip c 3+4-;strip d 4+5-;strip e 0-3-;strip f 2+5+;", 0, 1, 2, 3, 4, 5);
        none("strip a 0+1-;strip b 1+2-;strip c 3+4-;strip d 4+5-;strip e 0-3-;strip f 2+5-;");
    }

    private static void aheadOfIt() {
        DUE.by("ahead of it by CELLS and strips done");
        // whichever of the two comes second SHORTS
        check("strip a 0+1+;strip b 0+1-;", 1, 0, 1);
        check("strip a 0+1+;strip b 0+1-;", 1, 1, 0);
        check("strip a 0+1+;strip b 0+2-;strip c 1+2+;", 2, 0, 1, 2);
        check("strip a 0+1+;strip b 0+2-;strip c 1+2+;", 2, 2, 1, 0);
        check("strip a 0+1+;strip b 0+2-;strip c 1+2+;", 2, 2, 0, 1);
    }

    private static void nearTwo() {
        DUE.by("NODES told as near to it hang together, one by 2 and more higher");
        order("strip a 0+1- near 0-0+;", 0);
        order("strip a 0+1- near 0-1-;", 0);
        order("strip a 0+1- near 1-0-;", 0);
        order("strip a 0+1- near 0+1+;", 0);
        order("strip a 0+1- near 0-0-;", 0);
        none("strip a 0+1- near 0-1+;");
        none("strip a 0+1- near 1+0-;");
        order("strip a 0+1-;strip b 1+2- near 1-2-;", 0, 1);
        none("strip a 0+1-;strip b 1+2- after a near 0-2-;");
        order("strip a 0+1-;strip b 1+2- near 0-2-;", 1, 0);
        none("strip a 0+1-;strip b 1+2- after a near 2+0-;");
        DUE.by("only if they hang together");
        order("strip a 0+1- near 0-2+;", 0);
        order("strip a 0+1- near 5-6+;", 0);
    }

    private static void nearBeingDone() {
        DUE.by("or if, it being done, NODES told as near to it hang together");
        // by the strip itself
        check("strip a 0+1- near 0-1+;", 0, 0);
        // by what was done ahead
        check("strip a 0+1-;strip b 5+6+ near 0-1+;", 1, 0, 1);
        // what comes behind it does not count any more
        check("strip a 0+1-;strip b 5+6+ near 0-1+;", -1, 1, 0);
        order("strip a 0+1-;strip b 5+6+ near 0-1+;", 1, 0);
    }

    private static void nearToOthers() {
        DUE.by("NODES told as near to it: to another strip they are not");
        order("strip a 5+6+ near 0-1+;strip b 0+1-;", 0, 1);
        check("strip a 5+6+ near 0-1+;strip b 0+1-;", 1, 1, 0);
        DUE.by("{ 'near' NODE NODE }: each of them");
        none("strip a 0+1- near 5-6+ near 0-1+;");
        none("strip a 0+1- near 0-1+ near 5-6+;");
        order("strip a 0+1- near 5-6+ near 7-8+;", 0);
        // the last strip's last one
        none("strip a 5+6+;strip b 7+8+;strip c 0+1- near 5-6- near 7-8- near 0-1+;");
    }

    private static void weldsStay() {
        DUE.by("-1 less the place of a FAULT: they stay");
        DeadPacks x = welded("strip a 0+1+;strip b 2+3+ after a;");
        DUE.is("a FAULT", Due.tape(x, "strip c 0+1+;strip d 0+1+;strip e 0+1").welds(), -38);
        DUE.is("fault", x.fault(), 1);
        DUE.is("strips", x.count(7), 2);
        DUE.is("check", Due.tape(x, 1, 0).check(), 0);
        DUE.is("check", Due.tape(x, 0, 1).check(), -1);
        DUE.is("others", Due.tape(x, "strip c 0+0-;").welds(), 1);
        DUE.is("strips", x.count(7), 1);
        DUE.is("order", x.order(), -1);
        DUE.is("none at all", Due.tape(x, "").welds(), 0);
        DUE.is("strips", x.count(7), 0);
        DUE.is("order", x.order(), 0);
    }

    /** The tape's strips, told behind others (good ones, or such with a FAULT), hang on none of these. */
    private static void behind(String ahead, String text, int... due) {
        for (int many = 1; many <= 3; many++) {
            DeadPacks x = new DeadPacks();
            for (int k = 0; k < many; k++) {
                Due.tape(x, ahead).welds();
                x.order();
                Due.tape(x, due).check();
            }
            for (int k = 0; k < 2; k++) {
                DUE.is("welds of " + text, Due.tape(x, text).welds(), due.length);
                DUE.is("order of " + text + " behind " + ahead, x.order(), due.length);
                for (int i = 0; i < due.length; i++) {
                    DUE.is("orderAt(" + i + ")", x.orderAt(i), due[i]);
                }
                DUE.is("check of it", Due.tape(x, due).check(), -1);
            }
        }
    }

    private static void weldsAhead() {
        DUE.by("The tape is the WELDS now: nothing of those ahead");
        String near = "strip a 0+1- near 0-1+ near 0+1+ near 1+0-;strip b 5+6+ near 0-1+;";
        behind(near, "strip a 0+1-;", 0);
        behind(near, "strip a 0+1- near 0-0-;strip b 1+2-;", 0, 1);
        behind(near + "?", "strip a 0+1-;", 0);
        behind(near + "strip b", "strip a 0+1- near 5-5-;strip b 6+7+;", 0, 1);
        String after = "strip a 0+1+;strip b 2+3+ after a;strip c 4+5+ after b after a;";
        behind(after, "strip a 0+1-;strip b 9+9+ near 0-1+;", 1, 0);
        behind(after, "strip c 0+1-;strip b 1+2-;strip a 9+9+ near 0-2+;", 0, 2, 1);
        behind(after + "strip a", "strip a 0+1-;strip b 9+9+ near 0-1+;", 1, 0);
        // ahead no beginning but that with b goes on; now there is one with a
        behind("strip a 10+11-;strip b 1+1+;strip c 11+12-;strip d 2+2+ after c near 10-12+;",
                "strip a 1+1+;strip b 10+11-;strip c 1+1+;strip d 10+11-;", 0, 1, 2, 3);
        behind("strip a 0+0-;strip b 1+1-;strip c 2+2-;", "strip a 1+1+;strip b 1+1+;strip c 1+1+;", 0, 1, 2);
        String names = "strip a 0+1+;strip b 2+3+;";
        behind(names, "strip b 0+1+;strip a 2+3+ after b;", 0, 1);
        behind(names + "strip a", "strip b 0+1+;strip a 2+3+ after b;", 0, 1);
    }

    private static void behindAfter() {
        DUE.by("ORDER: all strips, each behind those it is 'after'");
        order("strip a 0+1+;strip b 2+3+ after a;", 0, 1);
        order("strip a 0+1+;strip b 2+3+;strip c 4+5+ after b after a;", 0, 1, 2);
        // c must be ahead of a because of its near, and b ahead of c
        order("strip a 0+1-;strip b 2+3+;strip c 4+5+ after b near 0-1+;", 1, 2, 0);
        // a must be behind c, and c behind a
        none("strip a 0+1-;strip b 2+3+ after a;strip c 4+5+ after b near 0-1+;");
    }

    private static void firstByNumbers() {
        DUE.by("the first by numbers");
        order("strip a 0+1+;strip b 2+3+;strip c 4+5+;", 0, 1, 2);
        // only d has to be ahead of c
        order("strip a 0+1+;strip b 2+3+;strip c 4+5-;strip d 6+7+ near 4-5+;", 0, 1, 3, 2);
        // only d has to be ahead of a
        order("strip a 4+5-;strip b 2+3+;strip c 0+1+;strip d 6+7+ near 4-5+;", 1, 2, 3, 0);
        // a and b together are what d is near to: either may come first, then d
        order("strip a 0+1-;strip b 1+2-;strip c 8+9+;strip d 6+7+ near 0-2+;", 0, 2, 3, 1);
        lateEnds();
        StringBuilder twelve = new StringBuilder();
        for (int k = 0; k < 11; k++) {
            twelve.append("strip ").append((char) ('a' + k)).append(' ').append(2 * k).append('+').append(2 * k + 1)
                    .append("-;");
        }
        twelve.append("strip l 40+41+");
        for (int k = 0; k < 11; k++) {
            twelve.append("near ").append(2 * k).append('-').append(2 * k + 1).append('+');
        }
        order(twelve + ";", 11, 0, 1, 2, 3, 4, 5, 6, 7, 8, 9, 10);
    }

    /** Beginnings that end nowhere, though none of the strips that are left SHORTS as yet. */
    private static void lateEnds() {
        // a must be behind d, and d behind c, so a can't be the first; b may come at any time
        order("strip a 10+11-;strip b 1+1+;strip c 11+12-;strip d 2+2+ after c near 10-12+;", 1, 2, 3, 0);
        // a must also be ahead of b
        order("strip a 10+11- near 10-12+;strip b 11+12-;strip c 11+13-;strip d 2+2+ after c near 10-13+;", 2, 3, 0, 1);
        // likewise f behind i behind g, with strips ahead and between that may come at any time
        order("strip a 1+1+;strip b 1+1+;strip c 1+1+;strip d 1+1+;strip e 1+1+;strip f 10+11-;strip g 11+12-;"
                + "strip h 1+1+;strip i 2+2+ after g near 10-12+;", 0, 1, 2, 3, 4, 6, 7, 8, 5);
        // f, g and h alone can begin; b to e must be behind a, which is behind h, which is behind g
        order("strip a 10+11-;strip b 1+1+ after a;strip c 1+1+ after a;strip d 1+1+ after a;strip e 1+1+ after a;"
                + "strip f 1+1+;strip g 11+12-;strip h 2+2+ after g near 10-12+;", 5, 6, 7, 0, 1, 2, 3, 4);
        // the same, and f must be behind a
        order("strip a 10+11- near 10-14+;strip b 1+1+ after a;strip c 1+1+ after a;strip d 1+1+ after a;"
                + "strip e 1+1+ after a;strip f 11+14-;strip g 11+12-;strip h 2+2+ after g near 10-12+;",
                6, 7, 0, 1, 2, 3, 4, 5);
        // b must be ahead of a, but it is behind a
        none("strip a 10+11-;strip b 2+2+ after a near 10-11+;strip c 1+1+;");
        // c must be behind b, and what is near to it must be ahead of b
        none("strip a 10+11-;strip b 11+12- after a;strip c 2+2+ after b near 10-12+;");
    }

    private static void noOrder() {
        DUE.by("order: how many strips; NONE: there is none");
        DUE.is("no WELDS", new DeadPacks().order(), 0);
        order("strip a 0+1+;", 0);
        none("strip a 0+0-;");
        none("strip a 0+1+;strip b 2+3+;strip c 4+4-;");
        // each must be ahead of the other
        none("strip a 0+1- near 2-3+;strip b 2+3- near 0-1+;");
        none("strip a 0+1- near 2-3+;strip b 2+3-;strip c 4+5-;strip d 6+7+ after b near 0-1+ near 4-5+;");
    }

    private static void orderAtLatest() {
        DUE.by("orderAt: of the latest order() that was not NONE; NONE: there is none such, or ahead of any");
        DeadPacks x = welded("strip a 0+0-;");
        DUE.is("ahead of any", x.orderAt(0), -1);
        x.order();
        DUE.is("one that was NONE is none", x.orderAt(0), -1);
        Due.tape(x, "strip a 0+1-;strip b 5+6+ near 0-1+;").welds();
        DUE.is("not yet asked", x.orderAt(0), -1);
        x.order();
        DUE.is("0", x.orderAt(0), 1);
        DUE.is("1", x.orderAt(1), 0);
        DUE.is("2", x.orderAt(2), -1);
        DUE.is("-1", x.orderAt(-1), -1);
        for (int far : FAR) {
            DUE.is("far", x.orderAt(far), -1);
        }
        Due.tape(x, "strip a 0+0-;").welds();
        x.order();
        Due.tape(x, 0).check();
        DUE.is("one that was NONE leaves it", x.orderAt(0), 1);
        Due.tape(x, "strip a 0+1+;").welds();
        DUE.is("so do new WELDS", x.orderAt(1), 0);
        x.order();
        DUE.is("the latest", x.orderAt(0), 0);
        DUE.is("only one now", x.orderAt(1), -1);
        Due.tape(x, "").welds();
        x.order();
        DUE.is("one of no strips", x.orderAt(0), -1);
    }

    private static void checkAll() {
        DUE.by("check: NONE, if that is all of them, each once, behind those it is 'after', and none SHORTS");
        check("", -1);
        check("strip a 0+1+;", -1, 0);
        check("strip a 0+1+;strip b 2+3+;", -1, 0, 1);
        check("strip a 0+1+;strip b 2+3+;", -1, 1, 0);
        check("strip a 0+1+;strip b 2+3+ after a;", -1, 0, 1);
        StringBuilder twelve = new StringBuilder();
        for (int k = 0; k < 12; k++) {
            twelve.append("strip ").append((char) ('a' + k)).append(" 0+1+;");
        }
        check(twelve.toString(), -1, Due.from(0, 12));
        check(twelve.toString(), -1, 11, 10, 9, 8, 7, 6, 5, 4, 3, 2, 1, 0);
        check(twelve.toString(), 11, Due.from(0, 11));
        check(twelve.toString(), 12, Due.from(0, 13));
    }

    private static void checkNoStrip() {
        DUE.by("check: the first that is no strip");
        check("", 0, 0);
        check("", 0, 255);
        check("strip a 0+1+;", 0, 1);
        check("strip a 0+1+;strip b 0+1+;", 1, 1, 2);
        check("strip a 0+1+;strip b 0+1+;", 1, 0, 32);
        check("strip a 0+1+;strip b 0+1+;", 1, 0, 33);
        check("strip a 0+1+;strip b 0+1+;", 1, 0, 127);
        check("strip a 0+1+;strip b 0+1+;", 1, 0, 128);
        check("strip a 0+1+;strip b 0+1+;", 1, 0, 255);
        check("strip a 0+1+;strip b 0+1+;", 2, 0, 1, 2);
        DUE.by("check: strips of WELDS that were there ahead are none");
        DeadPacks x = welded("strip a 0+1+;strip b 0+1+;strip c 0+1+;");
        Due.tape(x, "strip a 0+1+;").welds();
        DUE.is("b", Due.tape(x, 0, 1).check(), 1);
    }

    private static void checkToldAhead() {
        DUE.by("check: was told ahead");
        check("strip a 0+1+;", 1, 0, 0);
        check("strip a 0+1+;strip b 0+1+;", 2, 0, 1, 0);
        check("strip a 0+1+;strip b 0+1+;strip c 0+1+;", 2, 0, 2, 0, 1);
    }

    private static void checkAfter() {
        DUE.by("check: comes ahead of one it is 'after'");
        String three = "strip a 0+1+;strip b 2+3+;strip c 4+5+ after a after b;";
        check(three, -1, 1, 0, 2);
        check(three, 0, 2, 0, 1);
        check(three, 1, 0, 2, 1);
        check(three, 1, 1, 2, 0);
        check(three, 0, 2);
    }

    private static void checkShorts() {
        DUE.by("check: or SHORTS");
        check("strip a 0+0-;", 0, 0);
        check("strip a 0+1+;strip b 0-1+;", 1, 0, 1);
        check("strip a 0+1-;strip b 5+6+ near 0-1+;", 1, 0, 1);
        check("strip a 0+1-;strip b 5+6+ near 0-1+;", -1, 1, 0);
        check("strip a 0+1- near 0-1-;", -1, 0);
    }

    private static void checkLeft() {
        DUE.by("check: how many bytes there are, if some are left");
        check("strip a 0+1+;", 0);
        check("strip a 0+1+;strip b 0+1+;", 1, 1);
        check("strip a 0+1+;strip b 0+1+;strip c 0+1+;", 2, 2, 0);
        // what is left would SHORT, but it is not told
        check("strip a 0+1+;strip b 0-1+;", 1, 0);
    }

    private static void checkFirst() {
        DUE.by("check: the place of the first");
        String four = "strip a 0+1+;strip b 0-1+;strip c 2+3+;strip d 4+5+ after c;";
        check(four, 1, 0, 1, 3, 9);
        check(four, 1, 0, 3, 1, 9);
        check(four, 1, 0, 9, 3, 1);
        check(four, 1, 0, 0, 9, 3);
        check(four, 3, 0, 2, 3, 1);
        check(four, 3, 0, 2, 3);
        // it needs the whole tape, not the first twelve bytes
        int[] many = new int[540];
        Arrays.fill(many, 9);
        many[0] = 0;
        check("strip a 0+1+;", 1, many);
    }
}
