import java.util.NoSuchElementException;

/** What the tests share: feeding the tape, and noting answers that are not as due. */
final class Due {
    /** A call of the face that may throw. */
    interface Call {
        int answer();
    }

    private int wrong;
    private int looked;
    private String sentence = "";

    /** The words of the document that what follows is about. */
    void by(String words) {
        sentence = "[" + words + "] ";
    }

    void is(String what, long got, long want) {
        looked++;
        if (got != want) {
            wrong++;
            System.out.println(sentence + what + " answered " + got + ", due is " + want);
        }
    }

    void is(String what, boolean got, boolean want) {
        is(what, got ? 1 : 0, want ? 1 : 0);
    }

    void throwsNoSuch(String what, Call call) {
        looked++;
        try {
            int got = call.answer();
            wrong++;
            System.out.println(sentence + what + " answered " + got + ", due is NoSuchElementException");
        } catch (NoSuchElementException asDue) {
            // as due
        }
    }

    void finish() {
        System.out.println(looked + " answers, " + wrong + " not as due");
        if (wrong != 0) {
            System.exit(1);
        }
    }

    /** Makes the tape hold these bytes alone. */
    static DeadPacks tape(DeadPacks x, int... bytes) {
        x.end(0);
        for (int i = 0; i < bytes.length; i += 20) {
            int[] five = new int[5];
            for (int k = 0; k < 20 && i + k < bytes.length; k++) {
                five[k / 4] |= (bytes[i + k] & 255) << 24 - k % 4 * 8;
            }
            x.feed(five[0], five[1], five[2], five[3], five[4]);
        }
        x.end(bytes.length);
        return x;
    }

    static DeadPacks tape(DeadPacks x, String text) {
        int[] bytes = new int[text.length()];
        for (int i = 0; i < bytes.length; i++) {
            bytes[i] = text.charAt(i);
        }
        return tape(x, bytes);
    }

    /** The first n numbers from a first one on. */
    static int[] from(int first, int n) {
        int[] all = new int[n];
        for (int i = 0; i < n; i++) {
            all[i] = first + i;
        }
        return all;
    }

    static int[] alike(int value, int n) {
        int[] all = new int[n];
        java.util.Arrays.fill(all, value);
        return all;
    }

    static DeadPacks housed(String text) {
        DeadPacks x = new DeadPacks();
        tape(x, text).house();
        return x;
    }

    /** A house with one bench and one box, and CELLS with these HOLDS and PASSES. */
    static DeadPacks holding(int[] holds, int[] passes) {
        return holding("bench b;box x;", holds, passes);
    }

    static DeadPacks holding(String text, int[] holds, int[] passes) {
        DeadPacks x = housed(text);
        for (int i = 0; i < holds.length; i++) {
            x.cell(0);
            x.read(i, 0, holds[i], passes[i]);
        }
        return x;
    }
}
