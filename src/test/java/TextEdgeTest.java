/** Sections 1, 2 (RULE) and 5 (WELDS): the edges of TOKENS and texts, each sentence by itself (promises 4, 5, 15, 38). */
public final class TextEdgeTest {
    private static final Due DUE = new Due();
    private static final String TOLD = "bench box fade floor bleed fuse noise leak jump warm or and not in lies used hold "
            + "pass spread cell strip after near";
    private static final String SIX = "bench a;bench b;bench c;bench d;bench e;bench f;";
    private static final String EIGHT = "box a;box b;box c;box d;box e;box f;box g;box h;";

    public static void main(String[] args) {
        blanks();
        letters();
        digits();
        signs();
        goingOn();
        otherBytes();
        restOfTape();
        houseLength();
        houseEmpty();
        laws();
        lawsUsual();
        once();
        names();
        numbered();
        faultOne();
        faultTwo();
        faultThree();
        faultFour();
        leastOfOneToken();
        firstAlong();
        lines();
        kindOfFault();
        ruleLength();
        ruleForms();
        ruleOnes();
        ruleWithin();
        ruleBoxes();
        weldsLength();
        weldsForms();
        nodes();
        weldNames();
        twelve();
        DUE.finish();
    }

    private static String brief(String text) {
        return text.length() > 70 ? text.substring(0, 30) + ".." + text.substring(text.length() - 30) : text;
    }

    private static void told(String call, String text, int answer, int fault) {
        DeadPacks x = Due.housed("bench q;box x;box yellow;");
        Due.tape(x, text);
        int got = call.equals("house") ? x.house() : call.equals("rule") ? x.rule() : x.welds();
        DUE.is(call + " of '" + brief(text) + "'", got, answer);
        DUE.is(call + " of '" + brief(text) + "': fault", x.fault(), fault);
        DUE.is(call + " of '" + brief(text) + "': tape", x.count(8), 0);
    }

    private static void house(String text, int answer) {
        told("house", text, answer, 0);
    }

    private static void noHouse(String text, int place, int fault) {
        told("house", text, -1 - place, fault);
    }

    private static void rule(String text, int answer) {
        told("rule", text, answer, 0);
    }

    private static void noRule(String text, int place, int fault) {
        told("rule", text, -1 - place, fault);
    }

    private static void welds(String text, int answer) {
        told("welds", text, answer, 0);
    }

    private static void noWelds(String text, int place, int fault) {
        told("welds", text, -1 - place, fault);
    }

    private static String gap(int n) {
        return " ".repeat(n);
    }

    private static void blanks() {
        DUE.by("with blanks (32, 10) between them or not");
        house("bench a ; noise 5 ;", 2);
        house("\n\nbench\n\na\n;\nnoise\n5\n;\n", 2);
        rule(" (\nlies ) and\nhold < 5\n", 3);
        rule("(lies)and(hold<5)", 4);
        welds("strip a 0 +\n1\n- ;\n", 1);
        welds("strip a 0+1-;", 1);
        for (int c : new int[] {0, 1, 8, 9, 11, 12, 13, 31, 127, 128, 138, 160, 255}) {
            noHouse("bench" + (char) c + "a;", 5, 1);
            noRule("not" + (char) c + "lies", 3, 1);
            noWelds("strip a" + (char) c + "0+1-;", 7, 1);
        }
    }

    private static void letters() {
        DUE.by("WORDS: small letters, 1 to 6");
        house("bench a;box z;", 2);
        house("bench abcxyz;", 1);
        noHouse("bench abcwxyz;", 6, 1);
        noHouse("bench abcdefghijklmnopqrstuvwxyz;", 6, 1);
        noHouse("bench aaaaaaaaaaaaaaaaaaaaaaaaaaaaaaaaaaaaaaaaaaaaaaaaaaaaaaaaaaaaaaaa;", 6, 1);
        welds("strip abcxyz 0+1-;", 1);
        noWelds("strip abcwxyz 0+1-;", 6, 1);
        rule("in yellow", 1);
        noRule("in yellows", 3, 1);
        for (char c : new char[] {'`', '{', '@', '[', 'A', 'Z'}) {
            noHouse("bench " + c + ";", 6, 1);
            noHouse("bench a" + c + ";", 7, 1);
        }
        // letters and digits with the highest bit set are other bytes
        noHouse("bench " + (char) ('a' + 128) + ";", 6, 1);
        noHouse("noise " + (char) ('5' + 128) + ";", 6, 1);
        noHouse("noise 5" + (char) (';' + 128), 7, 1);
    }

    private static void digits() {
        DUE.by("NUMBERS: 1 to 3 digits");
        house("floor 1;", 1);
        house("floor 10;", 1);
        house("floor 999;", 1);
        house("floor 001;", 1);
        noHouse("floor 1000;", 6, 1);
        noHouse("floor 0001;", 6, 1);
        noHouse("floor 4294967297;", 6, 1);
        noHouse("floor 00000000000000000000000000000000000000000000005;", 6, 1);
        noHouse("floor /;", 6, 1);
        noHouse("floor :;", 6, 1);
        rule("hold>0", 1);
        rule("hold>999", 1);
        rule("hold>090", 1);
        noRule("hold>1000", 5, 1);
        noRule("hold>0000", 5, 1);
        welds("strip a 000+059-;", 1);
        noWelds("strip a 0000+1-;", 8, 1);
        noWelds("strip a 0+0001-;", 10, 1);
    }

    private static void signs() {
        DUE.by("; + - ( ) < = >");
        for (char c = 1; c < 256; c++) {
            boolean sign = c == '<' || c == '=' || c == '>';
            boolean none = c >= '0' && c <= '9' || c >= 'a' && c <= 'z' || c == ' ' || c == '\n';
            if (!none) {
                told("rule", "hold " + c + "5", sign ? 1 : -6, sign ? 0 : 1);
                told("house", "noise 5" + c, c == ';' ? 1 : -8, c == ';' ? 0 : 1);
                boolean end = c == '+' || c == '-';
                told("welds", "strip a 0" + c + "1+;", end ? 1 : -10, end ? 0 : 1);
                told("rule", c + "lies)", c == '(' ? 2 : -1, c == '(' ? 0 : 1);
                told("rule", "(lies" + c, c == ')' ? 2 : -6, c == ')' ? 0 : 1);
            }
        }
    }

    private static void goingOn() {
        DUE.by("A WORD, NUMBER goes on as long as small letters and digits do; what is not as told is no TOKEN");
        noHouse("noise5;", 0, 1);
        noHouse("noise 5a;", 6, 1);
        noHouse("noise a5;", 6, 1);
        noHouse("bench a5;", 6, 1);
        noHouse("bench 5a;", 6, 1);
        house("noise 5;leak 5;", 2);
        noHouse("noise 5leak 5;", 6, 1);
        noRule("hold=5or lies", 5, 1);
        rule("hold=5 or lies", 2);
        noRule("notlies", 0, 1);
        noRule("not1", 0, 1);
        noWelds("strip a 0+1-after", 17, 1);
        noWelds("strip a0+1-;", 6, 1);
        welds("strip a 0+1-near 0+1-;", 1);
        noWelds("strip a 0+1-near0+1-;", 12, 1);
    }

    private static void otherBytes() {
        DUE.by("1 no TOKEN: each byte that is none, wherever a TOKEN may come");
        for (char c = 0; c < 256; c++) {
            boolean blank = c == ' ' || c == '\n';
            boolean word = c >= 'a' && c <= 'z';
            boolean digit = c >= '0' && c <= '9';
            String name = "bench " + c + ";";
            told("house", name, word ? 1 : blank ? -8 : -7, word ? 0 : 1);
            told("house", "noise " + c + ";", digit ? 1 : blank ? -8 : -7, digit ? 0 : 1);
            told("house", "noise 5;" + c, blank ? 1 : -9, blank ? 0 : 1);
            told("rule", "hold>5 " + c, blank ? 1 : -8, blank ? 0 : 1);
            told("rule", "" + c, blank || c == '(' ? -2 : -1, 1);
            told("rule", "hold>" + c, digit ? 1 : blank ? -7 : -6, digit ? 0 : 1);
            told("rule", "in " + c, c == 'x' ? 1 : blank ? -5 : -4, c == 'x' ? 0 : word ? 3 : 1);
            told("welds", "" + c, blank ? 0 : -1, blank ? 0 : 1);
            told("welds", "strip a " + c + "+1+;", digit ? 1 : blank ? -10 : -9, digit ? 0 : 1);
            told("welds", "strip " + c + " 0+1+;", word ? 1 : blank ? -9 : -7, word ? 0 : 1);
        }
    }

    /** A text of the tape's first n bytes; the others still stood there when it was told. */
    private static void cutTo(String call, String text, int n, int answer, int fault) {
        DeadPacks x = Due.housed("bench q;box x;box yellow;");
        Due.tape(x, text);
        x.end(n);
        int got = call.equals("house") ? x.house() : call.equals("rule") ? x.rule() : x.welds();
        DUE.is(call + " of the first " + n + " of '" + brief(text) + "'", got, answer);
        DUE.is("its fault", x.fault(), fault);
    }

    private static void restOfTape() {
        DUE.by("The tape has its first n bytes alone: a text ends there");
        cutTo("house", "noise 5;;", 8, 1, 0);
        cutTo("house", "noise 5;;", 7, -8, 1);
        cutTo("house", "bench abcdefg", 12, -13, 1);
        cutTo("house", "floor 1000", 9, -10, 1);
        cutTo("rule", "in xyz", 4, 1, 0);
        cutTo("rule", "in yellows", 9, 1, 0);
        cutTo("rule", "in yellows", 8, -4, 3);
        cutTo("rule", "hold>9999", 8, 1, 0);
        cutTo("rule", "lies or used", 4, 1, 0);
        cutTo("rule", "liesused", 4, 1, 0);
        cutTo("rule", "lies9", 4, 1, 0);
        cutTo("rule", "lies used", 5, 1, 0);
        cutTo("welds", "strip a 0+1-;strip b 0+1-;", 13, 1, 0);
        cutTo("welds", "strip a 0+1-;strip b 0+1-;", 25, -26, 1);
        DUE.by("TOKENS that begin ahead of it are read whole: to the tape's last byte");
        noHouse(gap(499) + "a".repeat(41), 499, 1);
        noHouse(gap(499) + "5".repeat(41), 499, 1);
        noHouse("bench " + gap(493) + "b".repeat(41), 499, 1);
        noHouse("bench a;" + gap(490) + "noise " + "5".repeat(36), 500, 1);
        noRule("a".repeat(540), 0, 1);
        noRule("not " + "9".repeat(536), 4, 1);
        noWelds("5".repeat(540), 0, 1);
    }

    private static void houseLength() {
        DUE.by("A HOUSE is a text of at most 500 bytes; 500, if there are more and no FAULT is ahead");
        house(gap(499), 0);
        house(gap(500), 0);
        noHouse(gap(501), 500, 1);
        noHouse(gap(540), 500, 1);
        house(gap(492) + "bench a;", 1);
        noHouse(gap(492) + "bench a; ", 500, 1);
        noHouse(gap(493) + "bench a;", 500, 1);
        noHouse("bench a;" + gap(532), 500, 1);
        noHouse(gap(500) + "?", 500, 1);
        noHouse(gap(499) + "?", 499, 1);
        noHouse(gap(498) + "?" + gap(20), 498, 1);
        noHouse(gap(490) + "noise 100;;", 496, 2);
        // the end of the text ahead of 500 is the end
        noHouse(gap(494) + "bench ", 500, 1);
        noHouse(gap(493) + "bench ", 499, 1);
        DUE.by("TOKENS that begin ahead of it are read whole");
        noHouse(gap(494) + "benchs", 494, 1);
        noHouse(gap(495) + "benchs", 495, 1);
        noHouse(gap(495) + "bench;", 500, 1);
        noHouse(gap(499) + "benchs", 499, 1);
        noHouse(gap(499) + "bench a;", 500, 1);
        noHouse("box benc;" + gap(486) + "box bench;", 499, 1);
        noHouse("box abc;" + gap(487) + "box abc;", 499, 3);
        noHouse("box abc;" + gap(487) + "box abd;", 500, 1);
        noHouse("box abc;" + gap(488) + "box abc;", 500, 1);
        noHouse(gap(493) + "noise 100;", 499, 2);
        noHouse(gap(493) + "noise 1000;", 499, 1);
        noHouse(gap(493) + "noise 99;", 500, 1);
        noHouse(gap(494) + "noise 100;", 500, 1);
        noHouse(SIX + gap(451) + "bench g;", 499, 4);
        noHouse(SIX + gap(452) + "bench g;", 500, 1);
        noHouse("noise 5;" + gap(491) + "noise 5;", 499, 3);
        noHouse("noise 5;" + gap(492) + "noise 5;", 500, 1);
    }

    private static void houseEmpty() {
        DUE.by("{ LINE ; }");
        house("", 0);
        house(" ", 0);
        house("\n", 0);
        noHouse(";", 0, 1);
        house("noise 1;", 1);
        noHouse("noise 1;;", 8, 1);
        noHouse("noise 1", 7, 1);
    }

    private static void laws() {
        DUE.by("'fade' A B (0 to 99 both)");
        house("fade 0 0;", 1);
        house("fade 99 99;", 1);
        noHouse("fade 100 0;", 5, 2);
        noHouse("fade 99 100;", 8, 2);
        noHouse("fade 99;", 7, 1);
        noHouse("fade 1 2 3;", 9, 1);
        for (String law : "floor fuse".split(" ")) {
            DUE.by("'" + law + "' N (1 to 999)");
            house(law + " 1;", 1);
            house(law + " 999;", 1);
            noHouse(law + " 0;", law.length() + 1, 2);
            noHouse(law + " 1000;", law.length() + 1, 1);
        }
        DUE.by("'bleed' N (1 to 99)");
        house("bleed 1;", 1);
        house("bleed 99;", 1);
        noHouse("bleed 0;", 6, 2);
        noHouse("bleed 100;", 6, 2);
        for (String law : "noise leak jump warm".split(" ")) {
            DUE.by("'" + law + "' N (0 to 99)");
            house(law + " 0;", 1);
            house(law + " 99;", 1);
            noHouse(law + " 100;", law.length() + 1, 2);
            noHouse(law + " 999;", law.length() + 1, 2);
        }
    }

    /** LIFE of a PACK whose two ROWS have this HOLD and PASS. */
    private static int life(String laws, int hold, int pass) {
        DeadPacks x = Due.holding("bench b;box x;" + laws, new int[] {hold, hold}, new int[] {pass, pass});
        Due.tape(x, 0, 1).pack(2, 0);
        return x.life(0);
    }

    /** What CELL 0 gives away when it SHORTS, its neighbour having such a PASS too. */
    private static int shorted(String laws, int pass) {
        DeadPacks x = Due.holding("bench b;box x;" + laws, new int[] {5, 5}, new int[] {pass, pass});
        Due.tape(x, 0, 1).pack(1, 0);
        return x.shorted(0);
    }

    private static void lawsUsual() {
        DUE.by("2 1 without");
        DUE.is("fade", life("", 200, 100), life("fade 2 1;", 200, 100));
        DUE.is("fade, A", life("", 200, 9), 25001);
        DUE.is("fade, B", life("fade 0 1;", 200, 100), 50001);
        DUE.by("floor 100 without");
        DUE.is("99", life("", 99, 50), 0);
        DUE.is("100", life("", 100, 50), 1);
        DUE.by("bleed 5 without");
        DeadPacks x = Due.holding(new int[] {10, 10}, new int[] {5, 5});
        Due.tape(x, 0, 1).pack(2, 0);
        DUE.is("5 over", Due.tape(x, 100, 50).balance(0), 1);
        DUE.is("6 over", Due.tape(x, 100, 40).balance(0), 2);
        DUE.by("fuse 100 without");
        DUE.is("100 each", shorted("", 185), 0);
        DUE.is("101 each", shorted("", 183), 11);
        DUE.by("noise 2 without");
        DUE.is("4 a day", new DeadPacks().days(4), 2);
        DUE.is("5 a day", new DeadPacks().days(5), 1);
        DUE.by("leak 3, jump 20, warm 40 without");
        DeadPacks y = Due.housed("box x;");
        y.cell(0);
        y.cell(0);
        y.cell(0);
        y.rest(0, 0, 1000, 39);
        y.rest(0, 1, 997, 0);
        DUE.is("a FALL of 3", y.lies(0), 0);
        y.rest(0, 2, 993, 0);
        DUE.is("a FALL of 3.5", y.lies(0), 1);
        y.rest(1, 0, 1000, 0);
        y.rest(1, 1, 980, 0);
        DUE.is("by 20 in a day", y.lies(1), 1);
        y.rest(1, 2, 959, 0);
        DUE.is("by 21 in a day", y.lies(1), 3);
        y.rest(2, 0, 1000, 39);
        DUE.is("39", y.lies(2), 0);
        y.rest(2, 1, 1000, 40);
        DUE.is("40", y.lies(2), 4);
        DUE.by("a new HOUSE that does not tell a law has the usual one");
        Due.tape(x, "noise 50;").house();
        DUE.is("50", x.days(99), 2);
        Due.tape(x, "leak 50;").house();
        DUE.is("2", x.days(99), 1);
    }

    private static void once() {
        DUE.by("all but bench and box once");
        house("bench a;bench b;box c;box d;", 4);
        for (String law : "fade floor bleed fuse noise leak jump warm".split(" ")) {
            String line = law + (law.equals("fade") ? " 1 1;" : " 1;");
            house("box a;" + line, 2);
            noHouse(line + line, line.length(), 3);
            noHouse(line + "box a;" + line, line.length() + 6, 3);
        }
    }

    private static void names() {
        DUE.by("NAME: a WORD, none of those told here, in a RULE or in WELDS");
        for (String word : TOLD.split(" ")) {
            noHouse("bench " + word + ";", 6, 1);
            noHouse("box " + word + ";", 4, 1);
            noWelds("strip " + word + " 0+1-;", 6, 1);
            String like = word.substring(0, word.length() - 1) + "q";
            house("bench " + like + ";", 1);
            house("box " + like + ";", 1);
            welds("strip " + like + " 0+1-;", 1);
        }
        house("bench name;box line;box node;box rule;box house;bench one;bench all;bench cond;", 8);
        noHouse("bench 5;", 6, 1);
        noHouse("bench ;", 6, 1);
        DUE.by("NAME: told once");
        house("bench a;bench b;box c;box d;", 4);
        noHouse("bench a;bench b;bench a;", 22, 3);
        noHouse("box a;box b;box a;", 16, 3);
        noHouse("bench a;box b;box a;", 18, 3);
        noHouse("box a;box b;bench b;", 18, 3);
        house("box a;box aa;box aaa;box aaaa;bench aaaaa;bench aaaaaa;", 6);
        house("bench abcdef;bench abcdeg;bench bbcdef;", 3);
    }

    private static void numbered() {
        DUE.by("6 BENCHES, 8 BOXES at most, each sort numbered from 0");
        house(SIX, 6);
        noHouse(SIX + "bench g;", 48, 4);
        house(EIGHT, 8);
        noHouse(EIGHT + "box i;", 48, 4);
        house("box p;box q;box r;box s;box t;box u;box v;box w;" + SIX, 14);
        DeadPacks x = Due.housed("box p;bench a;box q;bench b;");
        DUE.is("cell of box 0", x.cell(0), 0);
        DUE.is("cell of box 1", x.cell(1), 1);
        DUE.is("cell of box 2", x.cell(2), -1);
        DUE.is("bench 1", x.read(0, 1, 5, 5), 0);
        DUE.is("bench 2", x.read(0, 2, 5, 5), -1);
        Due.tape(x, "in q").rule();
        DUE.is("box q is number 1", x.meets(0), 1);
    }

    private static void faultOne() {
        DUE.by("1 no TOKEN, or one that can't come (at it)");
        noHouse("  ?", 2, 1);
        noHouse("bench a;  or", 10, 1);
        noHouse("bench a box b;", 8, 1);
        noHouse("bench a bench b;", 8, 1);
        noHouse("bench bench;", 6, 1);
        noHouse("a bench;", 0, 1);
        noHouse("bench a;5;", 8, 1);
        noHouse("noise a;", 6, 1);
        noHouse("noise ;", 6, 1);
        DUE.by("the end: how many bytes there are");
        noHouse("bench", 5, 1);
        noHouse("bench\n\n", 7, 1);
        noHouse("bench a", 7, 1);
        noHouse("bench a ", 8, 1);
        noHouse("fade 1", 6, 1);
        noHouse("fade 1 1  ", 10, 1);
        noRule("", 0, 1);
        noRule("   ", 3, 1);
        noRule("not ", 4, 1);
        noRule("(lies", 5, 1);
        noWelds("strip a 0+1- ", 13, 1);
    }

    private static void faultTwo() {
        DUE.by("2 a NUMBER that is not as told (at it)");
        noHouse("floor  000;", 7, 2);
        noHouse("box a;bleed 100", 12, 2);
        noHouse("fade 100 x", 5, 2);
        noHouse("fade 1  100", 8, 2);
        noWelds("strip a 60+1-;", 8, 2);
    }

    private static void faultThree() {
        DUE.by("3 a NAME told twice, fade, .. warm told twice (at it)");
        noHouse("box a; box  a;", 12, 3);
        noHouse("noise 1; noise 2;", 9, 3);
        noHouse("noise 1; noise 100;", 9, 3);
        noHouse("noise 1; noise", 9, 3);
        noHouse("noise 1; noise ?", 9, 3);
    }

    private static void faultFour() {
        DUE.by("4 a seventh BENCH, a ninth BOX (at its LINE's first WORD)");
        noHouse(SIX + " bench g;", 49, 4);
        noHouse(SIX + " bench a;", 49, 4);
        noHouse(SIX + " bench box;", 49, 4);
        noHouse(SIX + " bench ?", 49, 4);
        noHouse(SIX + "box z;\nbench g;", 55, 4);
        house(SIX + "box z;", 7);
        noHouse(EIGHT + "  box i;", 50, 4);
        noHouse(EIGHT + "  box 5", 50, 4);
        house(EIGHT + "bench z;", 9);
    }

    private static void leastOfOneToken() {
        DUE.by("of one TOKEN the least");
        // a law told twice that can't come there; a seventh bench that can't come there
        noHouse("noise 1 noise 2;", 8, 1);
        noHouse(SIX.substring(0, 47) + " bench g;", 48, 1);
        noHouse("noise 1;noise1;", 8, 1);
        // 'in' and 20 ONES ahead: what can't begin a ONE is 1, not 4
        noRule("lies" + " or lies".repeat(19) + " or x", 160, 1);
        noRule("lies" + " or lies".repeat(19) + " or in", 160, 4);
        noRule("not not not not not not not not ;", 32, 1);
        noRule("not not not not not not not not (", 32, 4);
        noWelds("strip a 0+1-;strip b 2+3- after 60;", 32, 1);
    }

    private static void firstAlong() {
        DUE.by("the first along the text");
        noHouse("noise 100;noise 1?", 6, 2);
        noHouse("box a;box a;noise 100;", 10, 3);
        noHouse("noise 100;box a;box a;", 6, 2);
        noHouse(SIX + "bench a;", 48, 4);
        noHouse("?" + SIX + "bench a;", 0, 1);
        noHouse("bench a;bench a;" + "bench b;bench c;bench d;bench e;bench f;bench g;", 14, 3);
    }

    private static void lines() {
        DUE.by("how many LINES");
        house(SIX + EIGHT.replace("box ", "box x") + "fade 1 1;floor 1;bleed 1;fuse 1;noise 1;leak 1;jump 1;warm 1;", 22);
        house("fade 1 1;", 1);
        DUE.by("-1 less the place of a FAULT");
        noHouse("?", 0, 1);
        noHouse(" ?", 1, 1);
        noHouse(gap(499) + "?", 499, 1);
    }

    private static void kindOfFault() {
        DUE.by("The kind of the FAULT of the latest house(), rule() or welds(); 0 without one and ahead of any");
        DeadPacks x = new DeadPacks();
        DUE.is("ahead of any", x.fault(), 0);
        Due.tape(x, "box a;box a;").house();
        DUE.is("house", x.fault(), 3);
        Due.tape(x, "box a;").house();
        DUE.is("house without", x.fault(), 0);
        Due.tape(x, "in b").rule();
        DUE.is("rule", x.fault(), 3);
        Due.tape(x, "strip a 60+1-;").welds();
        DUE.is("welds", x.fault(), 2);
        Due.tape(x, "in a").rule();
        DUE.is("rule without", x.fault(), 0);
        Due.tape(x, "?").house();
        DUE.is("house again", x.fault(), 1);
        Due.tape(x, "").welds();
        DUE.is("welds without", x.fault(), 0);
        Due.tape(x, "?").rule();
        Due.tape(x, 0, 1).rows(1);
        Due.tape(x, 0).check();
        x.image(0);
        x.restore(0);
        x.order();
        DUE.is("other calls leave it", x.fault(), 1);
    }

    private static void ruleLength() {
        DUE.by("A RULE is a text of at most 200 bytes");
        rule("lies" + gap(195), 1);
        rule("lies" + gap(196), 1);
        noRule("lies" + gap(197), 200, 1);
        rule(gap(196) + "lies", 1);
        noRule(gap(197) + "lies", 200, 1);
        noRule(gap(199) + "lies", 200, 1);
        noRule(gap(199) + "liez", 199, 1);
        noRule(gap(200) + "lies", 200, 1);
        noRule(gap(200) + "liez", 200, 1);
        noRule(gap(200), 200, 1);
        noRule(gap(201), 200, 1);
        noRule(gap(540), 200, 1);
        noRule(gap(196) + "in z5", 199, 1);
        noRule(gap(196) + "in zz", 199, 3);
        noRule(gap(196) + "in yellow", 200, 1);
        noRule(gap(197) + "in zz", 200, 1);
        noRule(gap(194) + "hold>1000", 199, 1);
        noRule(gap(194) + "hold>100", 200, 1);
        noRule("lies" + " or lies".repeat(19) + gap(39) + " or lies", 199, 4);
        noRule("lies" + " or lies".repeat(19) + gap(40) + " or lies", 200, 1);
    }

    private static void ruleForms() {
        DUE.by("COND: ALL { 'or' ALL }. ALL: ONE { 'and' ONE }");
        rule("lies", 1);
        rule("lies or lies and lies or lies", 4);
        noRule("lies or", 7, 1);
        noRule("lies and", 8, 1);
        noRule("or lies", 0, 1);
        noRule("and lies", 0, 1);
        noRule("lies or or lies", 8, 1);
        noRule("lies and or lies", 9, 1);
        noRule("lies lies", 5, 1);
        noRule("lies;", 4, 1);
        DUE.by("'not' ONE | ( COND )");
        rule("not lies", 2);
        rule("(lies or used)", 3);
        noRule("not", 3, 1);
        noRule("not or", 4, 1);
        noRule("not )", 4, 1);
        noRule("()", 1, 1);
        noRule("(lies", 5, 1);
        noRule("lies)", 4, 1);
        noRule("(lies))", 6, 1);
        DUE.by("( 'hold' | 'pass' | 'spread' | 'cell' ) SIGN NUMBER");
        for (String word : "hold pass spread cell".split(" ")) {
            int n = word.length();
            rule(word + "<0", 1);
            rule(word + "=999", 1);
            rule(word + ">5", 1);
            noRule(word, n, 1);
            noRule(word + "5", 0, 1);
            noRule(word + " 5", n + 1, 1);
            noRule(word + "<", n + 1, 1);
            noRule(word + "<=5", n + 1, 1);
            noRule(word + "<x", n + 1, 1);
            noRule(word + "<lies", n + 1, 1);
            noRule(word + "-5", n, 1);
        }
        for (String word : "box bench fade floor bleed fuse noise leak jump warm strip after near".split(" ")) {
            noRule(word + "<5", 0, 1);
        }
    }

    private static void ruleOnes() {
        DUE.by("20 ONES; 4 a 21st ONE (at its first TOKEN)");
        rule("lies" + " or lies".repeat(18), 19);
        rule("lies" + " or lies".repeat(19), 20);
        noRule("lies" + " or lies".repeat(20), 160, 4);
        rule("(lies)" + " or not lies".repeat(9), 20);
        noRule("(lies)" + " or not lies".repeat(9) + " and lies", 119, 4);
        noRule("lies or (lies)" + " or not lies".repeat(8) + " or not used", 118, 4);
        rule("hold<5" + " or in x".repeat(19), 20);
        noRule("hold<5" + " or in x".repeat(19) + " or in z", 162, 4);
        noRule("hold<5" + " or in x".repeat(19) + " or hold?", 162, 4);
    }

    private static void ruleWithin() {
        DUE.by("8 within one another; a ninth within (at its first TOKEN)");
        rule("not ".repeat(7) + "lies", 8);
        noRule("not ".repeat(8) + "lies", 32, 4);
        rule("(".repeat(7) + "lies" + ")".repeat(7), 8);
        noRule("(".repeat(8) + "lies" + ")".repeat(8), 8, 4);
        rule("(not(not(not not used)))and(not(not(not not used)))", 16);
        noRule("(not(not(not(not used))))", 17, 4);
        noRule("(not(not(not(not(used)))))", 16, 4);
        rule("(((((((lies and lies)))))) or lies)", 10);
        noRule("(((((((lies and not lies)))))))", 20, 4);
        rule("(((((((lies)))))))or(((((((used)))))))", 16);
    }

    private static void ruleBoxes() {
        DUE.by("3 (no such BOX)");
        rule("in x", 1);
        rule("in yellow", 1);
        noRule("in xx", 3, 3);
        noRule("in yello", 3, 3);
        noRule("in q", 3, 3);
        noRule("in ", 3, 1);
        noRule("in 0", 3, 1);
        noRule("in (", 3, 1);
        DeadPacks x = new DeadPacks();
        DUE.is("no BOX at all", Due.tape(x, "in x").rule(), -4);
        DUE.is("no BOX at all", x.fault(), 3);
        Due.tape(x, "box x;").house();
        DUE.is("now there is one", Due.tape(x, "in x").rule(), 1);
    }

    private static void weldsLength() {
        DUE.by("WELDS are a text of at most 400 bytes");
        welds(gap(400), 0);
        noWelds(gap(401), 400, 1);
        noWelds(gap(540), 400, 1);
        welds("strip a 0+1-;" + gap(387), 1);
        noWelds("strip a 0+1-;" + gap(388), 400, 1);
        welds(gap(387) + "strip a 0+1-;", 1);
        noWelds(gap(388) + "strip a 0+1-;", 400, 1);
        noWelds(gap(399) + "strips", 399, 1);
        noWelds(gap(399) + "strip a 0+1-;", 400, 1);
        noWelds(gap(400) + "?", 400, 1);
        noWelds(gap(391) + "strip a 60+1-;", 399, 2);
        noWelds(gap(391) + "strip a 59+1-;", 400, 1);
        noWelds(gap(392) + "strip a 60+1-;", 400, 1);
        noWelds("strip abc 0+1-;" + gap(378) + "strip abc 0+1-;", 399, 3);
        noWelds("strip abc 0+1-;" + gap(379) + "strip abc 0+1-;", 400, 1);
    }

    private static void weldsForms() {
        DUE.by("{ 'strip' NAME NODE NODE { 'after' NAME } { 'near' NODE NODE } ; }");
        welds("", 0);
        welds("strip a 0+1-;", 1);
        noWelds("strip a 0+1-", 12, 1);
        noWelds("strip a 0+1-;;", 13, 1);
        noWelds("strip a 0+;", 10, 1);
        noWelds("strip a ;", 8, 1);
        noWelds("strip ;", 6, 1);
        noWelds("strip a 0+1-2-;", 12, 1);
        welds("strip a 0+1-;strip b 0+1- after a after a near 0+1- near 0+1-;", 2);
        noWelds("strip a 0+1-;strip b 0+1- near 0+1- after a;", 36, 1);
        noWelds("strip a 0+1-;strip b 0+1- after;", 31, 1);
        noWelds("strip a 0+1- near;", 17, 1);
        noWelds("strip a 0+1- near 0+;", 20, 1);
        noWelds("strip a 0+1- near 0+1+2+;", 22, 1);
        noWelds("strip a 0+1- in;", 13, 1);
    }

    private static void nodes() {
        DUE.by("NODE: NUMBER (0 to 59, whether there is such a CELL or not) and + or -");
        welds("strip a 0+59-;", 1);
        welds("strip a 59+0+ near 59-0-;", 1);
        noWelds("strip a 60+0-;", 8, 2);
        noWelds("strip a 0+60-;", 10, 2);
        noWelds("strip a 999+0-;", 8, 2);
        noWelds("strip a 0+1- near 60+0-;", 18, 2);
        noWelds("strip a 0+1- near 0+60-;", 20, 2);
        noWelds("strip a 0 0-;", 10, 1);
        noWelds("strip a +0-;", 8, 1);
        noWelds("strip a 60 0-;", 8, 2);
    }

    private static void weldNames() {
        DUE.by("NAME: told once; 'after': told ahead");
        welds("strip a 0+1-;strip b 2+3-;", 2);
        noWelds("strip a 0+1-;strip a 2+3-;", 19, 3);
        noWelds("strip a 0+1-;strip b 2+3-;strip a 2+3-;", 32, 3);
        welds("strip a 0+1-;strip b 2+3- after a;", 2);
        noWelds("strip a 0+1- after b;strip b 2+3-;", 19, 3);
        noWelds("strip a 0+1-;strip b 2+3- after a after c;", 40, 3);
        // the HOUSE's NAMES are other ones
        welds("strip q 0+1-;strip x 2+3-;", 2);
    }

    private static void twelve() {
        DUE.by("12 at most, numbered from 0; 4 (a 13th strip, at its first WORD)");
        StringBuilder all = new StringBuilder();
        for (char c = 'a'; c < 'm'; c++) {
            all.append("strip ").append(c).append(" 0+1+;");
        }
        welds(all.toString(), 12);
        noWelds(all + "strip m 0+1+;", 156, 4);
        noWelds(all + " strip a 0+1+;", 157, 4);
        noWelds(all + " strip", 157, 4);
        noWelds(all + " strip ?", 157, 4);
        noWelds(all + " stripp", 157, 1);
        noWelds(all + "a", 156, 1);
        DeadPacks x = new DeadPacks();
        Due.tape(x, all.toString()).welds();
        DUE.is("ordered", x.order(), 12);
        for (int k = 0; k < 12; k++) {
            DUE.is("orderAt(" + k + ")", x.orderAt(k), k);
        }
    }
}
