/** Promises 38 to 41: WELDS, ORDER, check. */
public final class WeldTest {
    private static final Due DUE = new Due();

    public static void main(String[] args) {
        good();
        faults();
        limits();
        orders();
        shorting();
        checks();
        DUE.finish();
    }

    private static void text(String text, int answer, int fault) {
        DeadPacks x = new DeadPacks();
        Due.tape(x, text);
        String what = "welds of " + (text.length() > 60 ? text.substring(0, 60) + ".. " + text.length() : text);
        DUE.is(what, x.welds(), answer);
        DUE.is(what + ": fault", x.fault(), fault);
        DUE.is(what + ": strips", x.count(7), Math.max(0, answer));
        DUE.is(what + ": tape", x.count(8), 0);
    }

    private static void refused(String text, int place, int fault) {
        text(text, -1 - place, fault);
    }

    private static void good() {
        text("", 0, 0);
        text(" \n", 0, 0);
        text("strip a 0+1-;", 1, 0);
        text("strip a 0 + 59\n- ;", 1, 0);
        text("strip a 0+1- near 0+1-near 2-003+;strip b 4+5- after a near 0+0+;", 2, 0);
        text("strip a 0+1-;strip b 2+3-;strip c 1+4- after b after a after a near 1+2+ near 2+3+;", 3, 0);
    }

    private static void faults() {
        refused("strip", 5, 1);
        refused("strip a", 7, 1);
        refused("strip 5", 6, 1);
        refused("strip near 0+1-;", 6, 1);
        refused("strip box 0+1-;", 6, 1);
        refused("strip lies 0+1-;", 6, 1);
        refused("a 0+1-;", 0, 1);
        refused("bench a;", 0, 1);
        refused("strip a b", 8, 1);
        refused("strip a 0", 9, 1);
        refused("strip a 0;", 9, 1);
        refused("strip a 0 1", 10, 1);
        refused("strip a 0+", 10, 1);
        refused("strip a 0+;", 10, 1);
        refused("strip a 0+1-", 12, 1);
        refused("strip a 0+1-2+;", 12, 1);
        refused("strip a 0+1- after", 18, 1);
        refused("strip a 0+1- after 5;", 19, 1);
        refused("strip a 0+1- after near;", 19, 1);
        refused("strip a 0+1- near 0+;", 20, 1);
        refused("strip a 0+1- near 0+1;", 21, 1);
        refused("strip z 0+1-;strip a 0+1- near 0+1- after z;", 36, 1);
        refused("strip a 0+1-;;", 13, 1);
        refused("strip a 60+1-;", 8, 2);
        refused("strip a 0+60-;", 10, 2);
        refused("strip a 0+999-;", 10, 2);
        refused("strip a 0+1000-;", 10, 1);
        refused("strip a 0+1- near 60+1-;", 18, 2);
        refused("strip a 0+1- near 0+60-;", 20, 2);
        refused("strip a 0+1-;strip a 2+3-;", 19, 3);
        refused("strip a 0+1- after b;strip b 2+3-;", 19, 3);
        refused("strip a 0+1- after a;", 19, 3);
    }

    private static String strips(int n) {
        StringBuilder all = new StringBuilder();
        for (int i = 0; i < n; i++) {
            all.append("strip ").append((char) ('a' + i)).append(' ').append(2 * i).append('+').append(2 * i + 1)
                    .append("-;");
        }
        return all.toString();
    }

    private static void limits() {
        text(strips(12), 12, 0);
        refused(strips(13), strips(12).length(), 4);
        refused(strips(12) + " strip", strips(12).length() + 1, 4);
        refused(strips(12) + "stripe", strips(12).length(), 1);
        text(" ".repeat(387) + "strip a 0+1-;", 1, 0);
        refused(" ".repeat(388) + "strip a 0+1-;", 400, 1);
        refused("strip a 0+1-;" + " ".repeat(388), 400, 1);
        text("strip a 0+1-;" + " ".repeat(387), 1, 0);
        refused(" ".repeat(393) + "strip abcdefgh", 399, 1);
        refused(" ".repeat(391) + "strip a 060+", 399, 2);
        text("strip a 0+1-" + " near 0+1-".repeat(38) + "   ;", 1, 0);
        text("strip a 0+1-" + "near 0+1-".repeat(43) + ";", 1, 0);
        refused("strip a 0+1-" + "near 0+1-".repeat(58) + ";", 400, 1);
    }

    private static void order(String text, int... due) {
        DeadPacks x = new DeadPacks();
        Due.tape(x, text).welds();
        DUE.is("fault of " + text, x.fault(), 0);
        DUE.is("order of " + text, x.order(), due.length);
        for (int k = 0; k < due.length; k++) {
            DUE.is("orderAt(" + k + ") of " + text, x.orderAt(k), due[k]);
        }
        DUE.is("orderAt behind", x.orderAt(due.length), -1);
        DUE.is("orderAt ahead", x.orderAt(-1), -1);
        int[] bytes = due.clone();
        DUE.is("check of it", Due.tape(x, bytes).check(), -1);
    }

    private static void none(String text) {
        DeadPacks x = new DeadPacks();
        Due.tape(x, "strip a 8+9+;").welds();
        x.order();
        Due.tape(x, text).welds();
        DUE.is("fault of " + text, x.fault(), 0);
        DUE.is("order of " + text, x.order(), -1);
        DUE.is("told stays", x.orderAt(0), 0);
        DUE.is("told stays", x.orderAt(1), -1);
    }

    private static void orders() {
        order("");
        order("strip a 0+1+;", 0);
        order("strip a 0+1+;strip b 0-1-;", 0, 1);
        order("strip a 0+1+;strip b 0-1-;strip c 0+2- after a;strip d 3-2+ near 0-3+;", 0, 1, 3, 2);
        // strips may be told over again: nothing is higher
        order("strip a 0+1+;strip b 1+0+;strip c 0+0+;", 0, 1, 2);
        // d must come ahead of a and b, c behind it
        order("strip a 0+1-;strip b 1+2-;strip c 3+4+;strip d 5+6+ near 0-2-;", 0, 2, 3, 1);
        order("strip a 0+1-;strip d 5+6+ near 0-1+;strip c 3+4+ after d;", 1, 0, 2);
        none("strip a 0+1- near 0-1+;");
        none("strip a 0+1-;strip b 2+3+ after a near 0-1+;");
        // the last of many must be the first, and then some of the others may not be done too early
        String six = "strip a 0+1-;strip b 2+3+;strip c 4+5+;strip d 6+7+;strip e 8+9+;strip f 10+11+ near 0-1+;";
        order(six, 1, 2, 3, 4, 5, 0);
        order(six + "strip g 12+13+ after f near 2-3-;", 1, 2, 3, 4, 5, 0, 6);
        order("strip a 0+1-;strip b 2+3-;strip c 4+5-;strip d 6+7-;strip e 8+9-;"
                + "strip f 10+11+ near 0-1+ near 2-3+ near 4-5+ near 6-7+ near 8-9+;", 5, 0, 1, 2, 3, 4);
        order("strip a 0+1-;strip b 2+3-;strip c 4+5- near 0-1+;strip d 6+7-;strip e 8+9- near 4-5+;strip f 20+21-;"
                + "strip g 10+11+ near 0-1+ near 2-3+ near 4-5+ near 6-7+ near 8-9+ near 20-21+;", 6, 1, 3, 4, 2, 0, 5);
        // a alone goes, but what b is 'after' then closes its way: found only behind many steps
        order("strip a 0+1-;strip b 1+2-;strip c 3+4+;strip d 5+6+;strip e 7+8+;strip f 9+10+ after e near 0-2+;",
                0, 2, 3, 4, 5, 1);
        // two that must be the first: there is none
        none("strip a 0+1- near 3-4+;strip b 3+4- near 0-1+;");
        order("strip a 0+1- near 3-5-;strip b 3+4-;strip c 4+5- near 0-1+;", 2, 0, 1);
        order("strip a 0+1- near 3-5-;strip b 3+4-;strip c 4+5-;", 0, 1, 2);
        DeadPacks x = new DeadPacks();
        DUE.is("ahead of any", x.orderAt(0), -1);
        Due.tape(x, "strip a 0+1+;").welds();
        DUE.is("ahead of any", x.orderAt(0), -1);
        x.order();
        Due.tape(x, "strip a 0+1+;strip b 0+1+").welds();
        DUE.is("a FAULT leaves them", x.count(7), 1);
        Due.tape(x, "").welds();
        DUE.is("none now", x.count(7), 0);
        DUE.is("told stays till order()", x.orderAt(0), 0);
        DUE.is("no strips", x.order(), 0);
        DUE.is("none told", x.orderAt(0), -1);
    }

    private static void shorting() {
        none("strip a 0+0-;");
        none("strip a 0+1-;strip b 1+0-;");
        none("strip a 0+1+;strip b 0-1+;");
        none("strip a 0+1-;strip b 0-1-;");
        order("strip a 0+1-;strip b 1-0+;", 0, 1);
        // 1 higher is near enough, 2 is not
        order("strip a 0+1+ near 0-1+;", 0);
        order("strip a 0+1- near 0-1-;", 0);
        none("strip a 0+1- near 1+0-;");
        none("strip a 0+1- near 0-1+;");
        order("strip a 0+1- near 0-2+;", 0);
        // each near by itself: 0- and 2+ hang together, but are not told as near to one another
        order("strip a 0+1-;strip b 1+2- near 0-0+ near 2+2- near 1-2-;", 0, 1);
        // far round, down and up again
        order("strip a 0+1+;strip b 1-2-;strip c 2+3-;strip d 3+4+;strip e 4-0+;", 0, 1, 2, 3, 4);
        none("strip a 0+1+;strip b 1-2-;strip c 2+3-;strip d 3+4+;strip e 4-0-;");
    }

    private static void check(String text, int due, int... bytes) {
        DeadPacks x = new DeadPacks();
        Due.tape(x, text).welds();
        DUE.is("check of " + text + java.util.Arrays.toString(bytes), Due.tape(x, bytes).check(), due);
        DUE.is("the tape is empty then", x.count(8), 0);
        DUE.is("order is not told by it", x.orderAt(0), -1);
    }

    private static void checks() {
        String four = "strip a 0+1+;strip b 0-1-;strip c 0+2- after a;strip d 3-2+ near 0-3+;";
        check("", -1);
        check("", 0, 0);
        check(four, -1, 0, 1, 3, 2);
        check(four, -1, 3, 1, 0, 2);
        check(four, 3, 0, 1, 2, 3);
        check(four, 0, 2);
        check(four, 1, 1, 2, 0, 3);
        check(four, 1, 0, 0);
        check(four, 2, 0, 1);
        check(four, 0);
        check(four, 0, 9);
        check(four, 1, 0, 4);
        check(four, 1, 0, 255, 1);
        check(four, 4, 0, 1, 3, 2, 0);
        check(four, 4, 0, 1, 3, 2, 4);
        check("strip a 0+0-;", 0, 0);
        check("strip a 0+1-;strip b 1+0-;", 1, 0, 1);
        check("strip a 0+1-;strip b 1+0-;", 1, 1, 0);
        check("strip a 0+1- near 0-1+;", 0, 0);
    }
}
