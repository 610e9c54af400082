/** Promises 4 and 5: HOUSE texts and their FAULTS. */
public final class HouseTest {
    private static final Due DUE = new Due();

    public static void main(String[] args) {
        good();
        faults();
        limits();
        laws();
        staying();
        DUE.finish();
    }

    private static void text(String text, int answer, int fault) {
        DeadPacks x = new DeadPacks();
        Due.tape(x, text);
        String what = "house of " + (text.length() > 60 ? text.substring(0, 60) + ".. " + text.length() : text);
        DUE.is(what, x.house(), answer);
        DUE.is(what + ": fault", x.fault(), fault);
        DUE.is(what + ": tape", x.count(8), 0);
    }

    private static void refused(String text, int place, int fault) {
        text(text, -1 - place, fault);
    }

    private static void good() {
        text("", 0, 0);
        text(" \n \n", 0, 0);
        text("bench a;", 1, 0);
        text("bench\na\n;\nbox\nb;", 2, 0);
        text("bench abcdef;box abcdeg;", 2, 0);
        text("fade 0 99;floor 999;bleed 1;fuse 1;noise 0;leak 99;jump 0;warm 99;", 8, 0);
        text("noise 007;leak 00;floor 001;", 3, 0);
        text("bench a;bench b;bench c;bench d;bench e;bench f;", 6, 0);
        text("box a;box b;box c;box d;box e;box f;box g;box h;", 8, 0);
    }

    private static void faults() {
        refused(";", 0, 1);
        refused("bench", 5, 1);
        refused("bench  ", 7, 1);
        refused("bench a", 7, 1);
        refused("bench a b;", 8, 1);
        refused("bench 5;", 6, 1);
        refused("bench a;;", 8, 1);
        refused("bench abcdefg;", 6, 1);
        refused("bench a1;", 6, 1);
        refused("bench 1a;", 6, 1);
        refused("bencha;", 0, 1);
        refused("bench A;", 6, 1);
        refused("bench\ta;", 5, 1);
        refused("benches a;", 0, 1);
        refused("a;", 0, 1);
        refused("5;", 0, 1);
        refused("floor;", 5, 1);
        refused("floor a;", 6, 1);
        refused("floor 5 5;", 8, 1);
        refused("floor -5;", 6, 1);
        refused("floor 1000;", 6, 1);
        refused("floor 0001;", 6, 1);
        refused("floor 000;", 6, 2);
        refused("fade 5;", 6, 1);
        refused("fade 100 100;", 5, 2);
        refused("fade 1 100;", 7, 2);
        refused("bleed 0;", 6, 2);
        refused("bleed 100;", 6, 2);
        refused("fuse 0;", 5, 2);
        refused("noise 100;", 6, 2);
        refused("leak 100;", 5, 2);
        refused("jump 100;", 5, 2);
        refused("warm 100;", 5, 2);
        refused("bench a;bench a;", 14, 3);
        refused("box a;box a;", 10, 3);
        refused("bench a;box a;", 12, 3);
        refused("box a;bench a;", 12, 3);
        for (String law : new String[] {"fade 1 1;", "floor 1;", "bleed 1;", "fuse 1;", "noise 1;", "leak 1;",
            "jump 1;", "warm 1;"}) {
            refused(law + law, law.length(), 3);
        }
        refused("floor 1;floor 0;", 8, 3);
        refused("bench a;bench b;bench c;bench d;bench e;bench f;bench", 48, 4);
        refused("bench a;bench b;bench c;bench d;bench e;bench f; \nbench 5;", 50, 4);
        refused("box a;box b;box c;box d;box e;box f;box g;box h;box a;", 48, 4);
        for (String word : ("bench box fade floor bleed fuse noise leak jump warm or and not in lies used hold pass "
                + "spread cell strip after near").split(" ")) {
            refused("bench " + word + ";", 6, 1);
            refused("box " + word + ";", 4, 1);
        }
        for (String word : "or and not in lies used hold pass spread cell strip after near name".split(" ")) {
            refused(word + " 5;", 0, 1);
        }
        for (String sign : "+ - ( ) < = > . , ! _ { A".split(" ")) {
            refused("noise 5;" + sign, 8, 1);
            refused("noise " + sign + ";", 6, 1);
        }
        refused("noise 5;\0", 8, 1);
    }

    private static String blanks(int n) {
        return " ".repeat(n);
    }

    private static void limits() {
        text(blanks(492) + "bench a;", 1, 0);
        refused(blanks(493) + "bench a;", 500, 1);
        refused("bench a;" + blanks(493), 500, 1);
        refused(blanks(540), 500, 1);
        text(blanks(500), 0, 0);
        refused(blanks(501), 500, 1);
        // TOKENS that begin ahead of it are read whole
        refused(blanks(499) + "bench a;", 500, 1);
        refused(blanks(499) + "benchesa;", 499, 1);
        refused(blanks(493) + "floor 100;", 500, 1);
        refused(blanks(493) + "floor 1000;", 499, 1);
        refused(blanks(493) + "floor 000;", 499, 2);
        refused(blanks(494) + "bench a;", 500, 1);
        // one that begins just there is not read at all
        refused(blanks(494) + "floor 0;", 500, 1);
        refused(blanks(493) + " bench" + "1" + ";", 494, 1);
        refused("x" + blanks(520), 0, 1);
        refused("noise 100;" + blanks(520), 6, 2);
        refused(blanks(494) + "bench" + blanks(1), 500, 1);
        refused(blanks(494) + "bench" + blanks(9), 500, 1);
    }

    private static void laws() {
        DeadPacks x = Due.holding("bench b;box x;", new int[] {150, 99}, new int[] {50, 50});
        Due.tape(x, 0, 1).pack(2, 0);
        // usual laws: fade 2 1, floor 100: R 50, FADE 20 + 5
        DUE.is("usual fade and floor", x.row(0, 0, 2), (150 - 100) * 1000000L / (150 * 25) + 1);
        DUE.is("below the floor", x.row(0, 1, 2), 0);
        Due.tape(x, 100, 100).balance(0);
        DUE.is("usual bleed", Due.tape(x, 100, 100).balance(0), 11);
        DUE.is("usual noise", x.days(1), 5);
        x.rest(0, 0, 4000, 39);
        x.rest(0, 10, 3970, 0);
        DUE.is("usual leak, not above", x.lies(0), 0);
        x.rest(0, 11, 3950, 0);
        DUE.is("usual jump, not more", x.lies(0) & 2, 0);
        x.rest(0, 12, 3929, 40);
        DUE.is("usual leak, jump and warm", x.lies(0), 7);
        DeadPacks y = Due.holding("bench b;box x;", new int[] {150, 99}, new int[] {185, 185});
        Due.tape(y, 0, 1).pack(1, 0);
        DUE.is("usual fuse, not more", y.shorted(0), 0);
        DeadPacks z = Due.holding("bench b;box x;", new int[] {150, 99}, new int[] {183, 183});
        Due.tape(z, 0, 1).pack(1, 0);
        DUE.is("usual fuse", z.shorted(0), 11);
    }

    private static void staying() {
        DeadPacks x = Due.housed("bench a;box x;noise 5;");
        x.cell(0);
        x.read(0, 0, 5, 5);
        x.rest(0, 0, 5, 5);
        x.cell(0);
        x.read(1, 0, 5, 5);
        Due.tape(x, "lies").rule();
        Due.tape(x, 0, 1).pack(1, 0);
        x.cell(0);
        x.read(2, 0, 5, 5);
        x.mend(0, 1, 2, 0);
        Due.tape(x, "strip a 0+1+;").welds();
        Due.tape(x, "bench b").house();
        DUE.is("fault", x.fault(), 1);
        DUE.is("a FAULT leaves BENCHES", x.count(0), 1);
        DUE.is("a FAULT leaves CELLS", x.count(2), 3);
        DUE.is("a FAULT leaves laws", x.days(10), 2);
        DUE.is("a FAULT leaves the RULE", x.meets(-1), 0);
        DUE.is("new", Due.tape(x, "box z;box a;").house(), 2);
        DUE.is("no fault", x.fault(), 0);
        int[] counts = {0, 2, 0, 0, 0, 0, 0, 1};
        for (int what = 0; what < counts.length; what++) {
            DUE.is("a new HOUSE: count(" + what + ")", x.count(what), counts[what]);
        }
        DUE.is("a new HOUSE: RULE", x.meets(-1), -1);
        DUE.is("a new HOUSE: laws", x.days(10), 1);
        DUE.is("a new HOUSE: cell", x.cell(0), 0);
        DUE.is("a new HOUSE: no pack", x.about(0, 5), -1);
        DUE.is("a new HOUSE: no rests", x.lies(0), 0);
        DUE.throwsNoSuch("a new HOUSE: fall", () -> x.fall(0, 0));
        DUE.is("a new HOUSE: no bench", x.read(0, 0, 5, 5), -1);
        DUE.is("a new HOUSE: not TRUE", x.about(0, 1), -1);
    }
}
