/** Promises 15 and 16: RULES and who MEETS them. */
public final class RuleTest {
    private static final Due DUE = new Due();

    public static void main(String[] args) {
        good();
        faults();
        limits();
        meeting();
        staying();
        DUE.finish();
    }

    private static void text(String text, int answer, int fault) {
        DeadPacks x = Due.housed("bench b;box x;box y;");
        Due.tape(x, text);
        String what = "rule of " + (text.length() > 60 ? text.substring(0, 60) + ".. " + text.length() : text);
        DUE.is(what, x.rule(), answer);
        DUE.is(what + ": fault", x.fault(), fault);
        DUE.is(what + ": tape", x.count(8), 0);
    }

    private static void refused(String text, int place, int fault) {
        text(text, -1 - place, fault);
    }

    private static void good() {
        text("lies", 1, 0);
        text(" \nused\n", 1, 0);
        text("in x", 1, 0);
        text("not lies", 2, 0);
        text("(lies)", 2, 0);
        text("not(not lies)", 4, 0);
        text("hold<5", 1, 0);
        text("hold=5 and pass>999 or spread<000", 3, 0);
        text("cell>0 and(in y or not used)", 5, 0);
        text("not not not not not not not lies", 8, 0);
        text("(((((((lies)))))))", 8, 0);
        text("(((not(((lies or lies)))))) and lies", 10, 0);
        text("lies" + " or lies".repeat(19), 20, 0);
    }

    private static void faults() {
        refused("", 0, 1);
        refused("  ", 2, 1);
        refused("in", 2, 1);
        refused("in 5", 3, 1);
        refused("in z", 3, 3);
        refused("in b", 3, 3);
        refused("in lies", 3, 1);
        refused("in bench", 3, 1);
        refused("in x y", 5, 1);
        refused("hold", 4, 1);
        refused("hold 5", 5, 1);
        refused("hold >", 6, 1);
        refused("hold > x", 7, 1);
        refused("hold=5and lies", 5, 1);
        refused("hold > 1000", 7, 1);
        refused("hold >> 5", 6, 1);
        refused("hold + 5", 5, 1);
        refused("hold > - 5", 7, 1);
        refused("not", 3, 1);
        refused("()", 1, 1);
        refused("(lies", 5, 1);
        refused("(lies;", 5, 1);
        refused("lies)", 4, 1);
        refused("lies;", 4, 1);
        refused("lies used", 5, 1);
        refused("lies or", 7, 1);
        refused("lies and", 8, 1);
        refused("lies or and lies", 8, 1);
        refused("or lies", 0, 1);
        refused("strip", 0, 1);
        refused("bench", 0, 1);
        refused("x", 0, 1);
        refused("5", 0, 1);
        refused("Lies", 0, 1);
        refused("lies .", 5, 1);
    }

    private static void limits() {
        // a ninth within
        refused("not not not not not not not not lies", 32, 4);
        refused("not not not not not not not not x", 32, 1);
        refused("((((((((lies))))))))", 8, 4);
        refused("((((((((", 8, 1);
        refused("(((((((((", 8, 4);
        refused("(not(not(not(not(lies))))) ", 16, 4);
        // a 21st ONE
        refused("lies" + " or lies".repeat(20), 4 + 20 * 8 - 4, 4);
        refused("lies" + " or lies".repeat(19) + " and x", 4 + 19 * 8 + 5, 1);
        refused("lies" + " or lies".repeat(19) + " and in z", 4 + 19 * 8 + 5, 4);
        refused("not lies" + " or lies".repeat(18) + " or (lies)", 8 + 18 * 8 + 4, 4);
        // 200 bytes
        text(" ".repeat(196) + "lies", 1, 0);
        refused(" ".repeat(197) + "lies", 200, 1);
        refused("lies" + " ".repeat(197), 200, 1);
        text("lies" + " ".repeat(196), 1, 0);
        refused(" ".repeat(199) + "liar", 199, 1);
        refused(" ".repeat(199) + "lieslies", 199, 1);
        refused(" ".repeat(196) + "in zzz", 199, 3);
        refused(" ".repeat(197) + "in zzz", 200, 1);
        refused(" ".repeat(540), 200, 1);
        refused(" ".repeat(300) + "!", 200, 1);
    }

    private static int bits(DeadPacks x, String rule) {
        Due.tape(x, rule).rule();
        int bits = 0;
        int many = x.meets(-1);
        for (int k = 0; k < many; k++) {
            bits |= 1 << x.meets(k);
        }
        DUE.is(rule + ": behind the last", x.meets(many), -1);
        DUE.is(rule + ": fault", x.fault(), 0);
        return bits;
    }

    private static void meets(DeadPacks x, String rule, int due) {
        DUE.is(rule, bits(x, rule), due);
    }

    private static void meeting() {
        DeadPacks x = Due.housed("bench a;bench b;box x;box y;");
        DUE.is("no RULE", x.meets(-1), -1);
        DUE.is("no RULE", x.meets(0), -1);
        for (int c = 0; c < 6; c++) {
            x.cell(c % 2);
        }
        x.read(0, 0, 100, 10);
        x.read(1, 0, 200, 20);
        x.read(2, 0, 300, 30);
        x.read(2, 0, 310, 30);
        x.read(3, 0, 200, 40);
        x.read(4, 1, 200, 40);
        x.rest(1, 0, 4000, 99);
        x.rest(4, 0, 4000, 99);
        Due.tape(x, 0, 3).pack(1, 0);
        meets(x, "in x", 0b010101);
        meets(x, "in y", 0b101010);
        meets(x, "lies", 0b010010);
        meets(x, "used", 0b001001);
        meets(x, "hold < 200", 0b000001);
        meets(x, "hold = 200", 0b001010);
        meets(x, "hold > 200", 0b000100);
        meets(x, "not hold > 200", 0b111011);
        meets(x, "hold > 0", 0b001111);
        meets(x, "hold < 999", 0b001111);
        meets(x, "pass < 20", 0b000001);
        meets(x, "pass = 30", 0b000100);
        meets(x, "pass > 20", 0b001100);
        meets(x, "spread = 0", 0b001011);
        meets(x, "spread > 9", 0b000100);
        meets(x, "spread < 10", 0b001011);
        meets(x, "cell = 5", 0b100000);
        meets(x, "cell < 2", 0b000011);
        meets(x, "cell > 3", 0b110000);
        meets(x, "not in x", 0b101010);
        meets(x, "not lies and in x", 0b000101);
        meets(x, "not (lies and in x)", 0b101111);
        meets(x, "in x and lies or used", 0b011001);
        meets(x, "used or in x and lies", 0b011001);
        meets(x, "in x and (lies or used)", 0b010001);
        meets(x, "not not used", 0b001001);
        meets(x, "cell = 0 or cell = 1 or cell = 2 and cell = 3", 0b000011);
        meets(x, "(cell < 4 or (cell > 4 and not lies)) and not (used or (in y and (lies or pass > 5)))", 0b100100);
        meets(x, "lies and used", 0);
        DUE.is("none such", x.meets(0), -1);
        DUE.is("another k", x.meets(-2), -1);
        DUE.is("another k", x.meets(Integer.MIN_VALUE), -1);
        DUE.is("another k", x.meets(Integer.MAX_VALUE), -1);
        // CELLS as they are then
        meets(x, "used or hold > 350", 0b001001);
        x.read(5, 0, 400, 1);
        x.mend(0, 0, 1, 0);
        DUE.is("as they are then", x.meets(-1), 3);
        DUE.is("rising", x.meets(0), 1);
        DUE.is("rising", x.meets(1), 3);
        DUE.is("rising", x.meets(2), 5);
    }

    private static void staying() {
        DeadPacks x = Due.housed("box x;");
        x.cell(0);
        Due.tape(x, "cell = 0").rule();
        DUE.is("a FAULT", Due.tape(x, "lies or cell = 0 or").rule(), -20);
        DUE.is("leaves the RULE", x.meets(-1), 1);
        DUE.is("fault", x.fault(), 1);
        DUE.is("another", Due.tape(x, "lies").rule(), 1);
        DUE.is("is the RULE now", x.meets(-1), 0);
        DUE.is("fault", x.fault(), 0);
    }
}
