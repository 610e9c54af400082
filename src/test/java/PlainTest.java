import java.util.NoSuchElementException;
import java.util.Random;

/** Runs of calls, drawn from fixed seeds, answered by the class and by the document done plainly: they must be alike. */
public final class PlainTest {
    private static final Due DUE = new Due();

    /** Both of them, asked the same. */
    private static final class Both {
        final DeadPacks x = new DeadPacks();
        final Plain y = new Plain();
        final Random random;
        final String name;
        int calls;

        Both(long seed, String name) {
            random = new Random(seed);
            this.name = name + " " + seed;
        }

        int to(int most) {
            return random.nextInt(most + 1);
        }

        boolean one(int of) {
            return random.nextInt(of) == 0;
        }

        String of(String some) {
            String[] all = some.split(" ");
            return all[random.nextInt(all.length)];
        }

        /** Mostly 0 to most, now and then just beyond. */
        int about(int most) {
            return one(12) ? (one(2) ? -1 - to(1) : most + 1 + to(1)) : to(Math.max(0, most));
        }

        int count() {
            return y.count(7);
        }

        void tape(int... bytes) {
            int[] b = bytes.length > 540 ? java.util.Arrays.copyOf(bytes, 540) : bytes;
            same("end", 0, 0, 0, 0, 0);
            for (int i = 0; i < b.length; i += 20) {
                int[] f = new int[5];
                for (int k = 0; k < 20 && i + k < b.length; k++) {
                    f[k / 4] |= (b[i + k] & 255) << 24 - k % 4 * 8;
                }
                same("feed", f[0], f[1], f[2], f[3], f[4]);
            }
            same("end", b.length, 0, 0, 0, 0);
        }

        void tape(String text) {
            int[] bytes = new int[text.length()];
            for (int i = 0; i < bytes.length; i++) {
                bytes[i] = text.charAt(i);
            }
            tape(bytes);
        }

        int same(String call, int... a) {
            int[] args = java.util.Arrays.copyOf(a, 5);
            long want;
            long got;
            try {
                want = plain(call, args[0], args[1], args[2], args[3], args[4]);
            } catch (NoSuchElementException e) {
                want = Long.MIN_VALUE;
            }
            try {
                got = real(call, args[0], args[1], args[2], args[3], args[4]);
            } catch (NoSuchElementException e) {
                got = Long.MIN_VALUE;
            }
            calls++;
            DUE.is(name + ", call " + calls + ": " + call + java.util.Arrays.toString(a), got, want);
            return (int) want;
        }

        private int num(boolean b) {
            return b ? 1 : 0;
        }

        private int real(String call, int a, int b, int c, int d, int e) {
            switch (call) {
                case "feed": return x.feed(a, b, c, d, e);
                case "end": return num(x.end(a));
                case "house": return x.house();
                case "fault": return x.fault();
                case "cell": return x.cell(a);
                case "read": return x.read(a, b, c, d);
                case "rest": return x.rest(a, b, c, d);
                case "lean": return x.lean(a, b);
                case "about": return x.about(a, b);
                case "again": return x.again();
                case "fall": return x.fall(a, b);
                case "lies": return x.lies(a);
                case "days": return x.days(a);
                case "rule": return x.rule();
                case "meets": return x.meets(a);
                case "rows": return x.rows(a);
                case "rowAt": return x.rowAt(a);
                case "rowsBy": return x.rowsBy(a);
                case "swaps": return x.swaps(a);
                case "swapAt": return x.swapAt(a);
                case "swapsBy": return x.swapsBy(a);
                case "most": return x.most(a, b, c);
                case "share": return x.share(a);
                case "shareAt": return x.shareAt(a);
                case "pack": return x.pack(a, b);
                case "row": return x.row(a, b, c);
                case "inPack": return x.inPack(a, b);
                case "life": return x.life(a);
                case "ends": return x.ends(a);
                case "mend": return num(x.mend(a, b, c, d));
                case "bestMend": return x.bestMend(a);
                case "bestBy": return x.bestBy(a);
                case "balance": return x.balance(a);
                case "lost": return x.lost();
                case "shorted": return x.shorted(a);
                case "held": return x.held(a, b);
                case "welds": return x.welds();
                case "order": return x.order();
                case "orderAt": return x.orderAt(a);
                case "check": return x.check();
                case "image": return num(x.image(a));
                case "restore": return num(x.restore(a));
                case "count": return x.count(a);
                default: throw new IllegalArgumentException(call);
            }
        }

        private int plain(String call, int a, int b, int c, int d, int e) {
            switch (call) {
                case "feed": return y.feed(a, b, c, d, e);
                case "end": return num(y.end(a));
                case "house": return y.house();
                case "fault": return y.fault();
                case "cell": return y.cell(a);
                case "read": return y.read(a, b, c, d);
                case "rest": return y.rest(a, b, c, d);
                case "lean": return y.lean(a, b);
                case "about": return y.about(a, b);
                case "again": return y.again();
                case "fall": return y.fall(a, b);
                case "lies": return y.lies(a);
                case "days": return y.days(a);
                case "rule": return y.rule();
                case "meets": return y.meets(a);
                case "rows": return y.rows(a);
                case "rowAt": return y.rowAt(a);
                case "rowsBy": return y.rowsBy(a);
                case "swaps": return y.swaps(a);
                case "swapAt": return y.swapAt(a);
                case "swapsBy": return y.swapsBy(a);
                case "most": return y.most(a, b, c);
                case "share": return y.share(a);
                case "shareAt": return y.shareAt(a);
                case "pack": return y.pack(a, b);
                case "row": return y.row(a, b, c);
                case "inPack": return y.inPack(a, b);
                case "life": return y.life(a);
                case "ends": return y.ends(a);
                case "mend": return num(y.mend(a, b, c, d));
                case "bestMend": return y.bestMend(a);
                case "bestBy": return y.bestBy(a);
                case "balance": return y.balance(a);
                case "lost": return y.lost();
                case "shorted": return y.shorted(a);
                case "held": return y.held(a, b);
                case "welds": return y.welds();
                case "order": return y.order();
                case "orderAt": return y.orderAt(a);
                case "check": return y.check();
                case "image": return num(y.image(a));
                case "restore": return num(y.restore(a));
                case "count": return y.count(a);
                default: throw new IllegalArgumentException(call);
            }
        }
    }

    public static void main(String[] args) {
        int runs = args.length > 0 ? Integer.parseInt(args[0]) : 30;
        long seed = args.length > 1 ? Long.parseLong(args[1]) : 1;
        for (long s = seed; s < seed + runs; s++) {
            texts(new Both(s, "texts"));
            weldings(new Both(s, "weldings"));
            packing(new Both(s, "packing"));
            heap(new Both(s, "heap"));
            anything(new Both(s, "anything"));
        }
        DUE.finish();
    }

    private static String blank(Both b) {
        return b.one(3) ? (b.one(2) ? "\n" : "  ") : " ";
    }

    private static String houseText(Both b, int benches, int boxes) {
        StringBuilder all = new StringBuilder();
        for (int i = 0; i < benches; i++) {
            all.append("bench").append(blank(b)).append((char) ('a' + i)).append(';');
        }
        for (int i = 0; i < boxes; i++) {
            all.append("box ").append((char) ('p' + i)).append(blank(b)).append(';');
        }
        String[] laws = {"fade " + b.to(99) + " " + b.to(99), "floor " + (1 + b.to(b.one(2) ? 998 : 200)),
            "bleed " + (1 + b.to(98)), "fuse " + (1 + b.to(b.one(2) ? 998 : 200)), "noise " + b.to(99),
            "leak " + b.to(b.one(2) ? 99 : 5), "jump " + b.to(b.one(2) ? 99 : 20), "warm " + b.to(99)};
        for (String law : laws) {
            if (!b.one(3)) {
                all.append(law).append(b.one(4) ? " ;" : ";");
            }
        }
        return all.toString();
    }

    private static String cond(Both b, int depth) {
        StringBuilder all = new StringBuilder(one(b, depth));
        while (b.one(2)) {
            all.append(b.one(2) ? " or " : " and ").append(one(b, depth));
        }
        return all.toString();
    }

    private static String one(Both b, int depth) {
        int what = b.to(depth > 9 ? 5 : 8);
        if (what == 0) {
            return "in " + b.of("p p q q r s a x");
        }
        if (what == 1) {
            return b.of("lies used");
        }
        if (what <= 5) {
            int number = b.one(3) ? b.to(999) : b.to(80);
            return b.of("hold pass spread cell") + b.of("< = >") + number;
        }
        return what == 6 ? "not " + one(b, depth + 1) : "(" + cond(b, depth + 1) + ")";
    }

    private static String weldText(Both b, int strips, int cells, int nears) {
        StringBuilder all = new StringBuilder();
        for (int i = 0; i < strips; i++) {
            all.append("strip ").append((char) ('a' + i)).append(' ').append(node(b, cells)).append(node(b, cells));
            while (i > 0 && b.one(3)) {
                all.append(" after ").append((char) ('a' + b.to(b.one(30) ? i : i - 1)));
            }
            for (int k = b.to(nears); k > 0; k--) {
                all.append(" near ").append(node(b, cells)).append(node(b, cells));
            }
            all.append(';');
        }
        return all.toString();
    }

    /** Many strips that never lift against one another, and so many told as near that orders are few. */
    private static String tightText(Both b) {
        int strips = 5 + b.to(7);
        StringBuilder all = new StringBuilder();
        for (int i = 0; i < strips; i++) {
            boolean line = b.one(2);
            all.append("strip ").append((char) ('a' + i)).append(' ').append(2 * i).append('+');
            all.append(line ? 2 * i + 1 : 2 * b.to(i) + 1).append(line ? '-' : '+');
            if (i > 0 && b.one(4)) {
                all.append(" after ").append((char) ('a' + b.to(i - 1)));
            }
            if (b.one(3)) {
                int k = b.to(strips - 1);
                all.append(" near ").append(2 * k).append('-').append(2 * b.to(strips - 1) + 1).append('+');
            }
            all.append(';');
        }
        return all.toString();
    }

    private static String node(Both b, int cells) {
        return b.to(cells - 1) + b.of("+ -");
    }

    /** One small thing of a text made otherwise. */
    private static String bent(Both b, String text) {
        if (text.isEmpty()) {
            return b.of("; a 5 ( bench strip");
        }
        int at = b.to(text.length() - 1);
        switch (b.to(5)) {
            case 0: return text.substring(0, at) + text.substring(at + 1);
            case 1: return text.substring(0, at);
            case 2: return text.substring(0, at) + b.of("a b 9 0 ; + - ( ) < = > . A _ near after bench box or and in") + text.substring(at);
            case 3: return text.substring(0, at) + " ".repeat(b.to(300)) + text.substring(at);
            case 4: return text.substring(0, at) + (char) b.to(255) + text.substring(at + 1);
            default: return text + text.substring(at);
        }
    }

    private static void text(Both b, String call, String text) {
        String t = text;
        while (b.one(2)) {
            t = bent(b, t);
        }
        b.tape(t);
        b.same(call);
        b.same("fault");
        for (int what = 0; what <= 8; what++) {
            b.same("count", what);
        }
        b.same("days", 1);
    }

    private static void texts(Both b) {
        for (int i = 0; i < 12; i++) {
            text(b, "house", houseText(b, b.to(7), b.to(9)));
            for (int c = b.to(5); c > 0; c--) {
                b.same("cell", b.to(3));
            }
            text(b, "rule", cond(b, 1));
            b.same("meets", -1);
            text(b, "welds", weldText(b, b.to(b.one(3) ? 13 : 4), 60, 2));
        }
    }

    private static void weldings(Both b) {
        for (int i = 0; i < 12; i++) {
            b.tape(b.one(3) ? tightText(b) : weldText(b, b.one(6) ? 10 : b.to(6), 2 + b.to(9), b.one(2) ? 1 : 2));
            b.same("welds");
            int many = b.same("order");
            for (int k = -1; k <= 12; k++) {
                b.same("orderAt", k);
            }
            for (int k = 0; k < 4; k++) {
                int[] bytes = new int[Math.max(0, b.count() + b.to(2) - 1)];
                for (int n = 0; n < bytes.length; n++) {
                    bytes[n] = many > 0 && b.one(2) ? Math.max(0, b.y.orderAt(n)) : b.to(bytes.length);
                }
                b.tape(bytes);
                b.same("check");
            }
        }
    }

    private static int[] some(Both b, int from, int many) {
        int[] all = new int[Math.max(1, from)];
        for (int i = 0; i < all.length; i++) {
            int k = b.to(i);
            all[i] = all[k];
            all[k] = i;
        }
        int[] some = java.util.Arrays.copyOf(all, Math.min(Math.max(0, many), all.length));
        if (some.length > 0 && b.one(20)) {
            some[b.to(some.length - 1)] = b.one(2) ? some[0] : b.to(65);
        }
        return some;
    }

    private static int divisor(Both b, int n) {
        int s = 1 + b.to(Math.max(0, n - 1));
        while (!b.one(30) && n % s != 0) {
            s = 1 + b.to(n - 1);
        }
        return s;
    }

    private static void stock(Both b, int cells, int benches, int holds) {
        b.tape(houseText(b, benches, 3));
        b.same("house");
        for (int c = 0; c < cells; c++) {
            b.same("cell", b.to(2));
            if (!b.one(15)) {
                b.same("read", c, b.one(3) ? b.to(benches - 1) : 0, 1 + b.to(holds), 1 + b.to(b.one(2) ? 998 : 60));
            }
        }
        for (int i = 0; i < cells; i++) {
            b.same("read", b.about(cells - 1), b.about(benches - 1), b.about(400), b.about(999));
        }
    }

    private static void packing(Both b) {
        int cells = 6 + b.to(14);
        stock(b, cells, 1 + b.to(5), b.one(2) ? 399 : 30);
        for (int i = 0; i < 3; i++) {
            int[] list = some(b, cells, 2 + b.to(8));
            b.tape(list);
            b.same("pack", divisor(b, list.length), b.one(10) ? b.about(999) : b.to(30));
        }
        for (int i = 0; i < 40; i++) {
            int p = b.about(b.y.count(5) - 1);
            switch (b.to(9)) {
                case 0:
                    b.same("mend", p, b.y.inPack(p, b.to(9)), b.about(cells - 1), b.one(4) ? b.about(999) : b.to(60));
                    break;
                case 1:
                    b.tape(some(b, cells, 1 + b.to(3)));
                    b.same("bestMend", p);
                    b.same("bestBy", b.about(1));
                    break;
                case 2:
                    int[] part = new int[p >= 0 && p < b.y.h.packs.size() ? b.y.h.packs.get(p).s : 2];
                    for (int k = 0; k < part.length; k++) {
                        part[k] = b.about(100);
                    }
                    b.tape(part);
                    b.same("balance", p);
                    b.same("lost");
                    break;
                case 3:
                    b.same("shorted", b.about(cells - 1));
                    break;
                case 4:
                    b.same("held", b.about(2), b.one(5) ? b.about(999) : b.to(62) - 1);
                    break;
                case 5:
                    b.same("row", p, b.about(3), b.about(2));
                    b.same("life", p);
                    b.same("ends", p);
                    break;
                case 6:
                    b.same("read", b.about(cells - 1), b.about(5), b.about(400), b.about(999));
                    b.same("lean", b.about(5), b.about(2));
                    b.same("again");
                    break;
                case 7:
                    b.same("inPack", p, b.about(9));
                    b.same("about", b.about(cells - 1), b.about(5));
                    break;
                case 8:
                    b.same("rest", b.about(cells - 1), b.one(4) ? b.about(99) : i * 2, 4000 - i * b.to(30), b.about(60));
                    b.same("lies", b.about(cells - 1));
                    b.same("fall", b.about(cells - 1), b.about(1));
                    break;
                default:
                    b.same(b.one(3) ? "image" : "restore", b.about(1));
                    b.tape(cond(b, 1));
                    b.same("rule");
                    b.same("meets", -1);
                    b.same("meets", b.to(5));
            }
        }
        for (int c = 0; c < cells; c++) {
            for (int what = 0; what <= 5; what++) {
                b.same("about", c, what);
            }
            b.same("lies", c);
        }
    }

    private static void heap(Both b) {
        int cells = 12 + b.to(48);
        stock(b, cells, 1 + b.to(1), b.one(3) ? 5 : b.one(2) ? 399 : 40);
        for (int i = 0; i < 3; i++) {
            int[] list = some(b, cells, b.one(2) ? 12 : 1 + b.to(11));
            b.tape(list);
            b.same("rows", divisor(b, Math.max(1, list.length)));
            for (int k = -1; k <= 12; k++) {
                b.same("rowAt", k);
            }
            b.same("rowsBy", 0);
            b.same("rowsBy", 1);
            int[] more = some(b, cells, b.one(2) ? 4 * (1 + b.to(9)) : 1 + b.to(40));
            b.tape(more);
            b.same("swaps", divisor(b, Math.max(1, more.length)));
            for (int k = -1; k <= 40; k++) {
                b.same("swapAt", k);
            }
            for (int k = 0; k <= 2; k++) {
                b.same("swapsBy", k);
            }
            b.tape(some(b, cells, 1 + b.to(60)));
            b.same("most", b.one(2) ? 1 : b.about(20), 1 + b.to(1), b.one(2) ? b.about(800) : 1 + b.to(60));
            int[] hours = new int[1 + b.to(8)];
            for (int k = 0; k < hours.length; k++) {
                hours[k] = b.one(40) ? b.to(255) : 1 + b.to(b.one(2) ? 98 : 9);
            }
            b.tape(hours);
            b.same("share", b.about(4));
            for (int k = -1; k <= 9; k++) {
                b.same("shareAt", k);
            }
        }
    }

    private static final String[] CALLS = ("end house fault cell read rest lean about again fall lies days rule meets rows "
            + "rowAt rowsBy swaps swapAt swapsBy most share shareAt pack row inPack life ends mend bestMend bestBy balance "
            + "lost shorted held welds order orderAt check image restore count").split(" ");

    private static void anything(Both b) {
        stock(b, 5, 2, 300);
        for (int i = 0; i < 300; i++) {
            if (b.one(4)) {
                b.same("feed", b.random.nextInt(), b.to(0x05050505), b.to(66051), 0, 0);
                b.same("end", b.to(20));
            }
            String call = CALLS[b.to(CALLS.length - 1)];
            if (!call.equals("house") || b.one(10)) {
                b.same(call, wild(b), wild(b), wild(b), wild(b));
            }
        }
    }

    private static int wild(Both b) {
        return b.one(9) ? b.random.nextInt() : b.to(8) - 2;
    }
}
