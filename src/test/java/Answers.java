import java.util.Arrays;
import java.util.function.IntUnaryOperator;

/** What tests share: answers are compared with those that are due, and plants are made that are easily reckoned with. */
abstract class Answers {
    static final int NONE = -1, BAD = -2, FULL = -3;
    static final int LOW = Integer.MIN_VALUE, HIGH = Integer.MAX_VALUE;
    static final int FOLLOW = 0, FIXED = 1, MANUAL = 2, BREAK = 3;

    private static int wrong, asked;

    static void due(String what, int got, int want) {
        asked++;
        if (got == want) return;
        wrong++;
        System.out.println(what + " answered " + got + ", due is " + want);
    }

    static void dueRow(String what, int[] got, int... want) {
        asked++;
        if (Arrays.equals(got, want)) return;
        wrong++;
        System.out.println(what + ": " + Arrays.toString(got) + ", due is " + Arrays.toString(want));
    }

    /** The packet n, from byte i on, is to have these bytes. */
    static void dueBytes(String what, BroadcastPlant x, int n, int i, int... want) {
        int[] got = new int[want.length];
        for (int k = 0; k < want.length; k++) got[k] = x.sent(n, i + k);
        dueRow(what + ": packet " + n + " from byte " + i, got, want);
    }

    /** The faults 1 .. 8 are to be so many. */
    static void dueFaults(String what, BroadcastPlant x, int... want) {
        int[] got = new int[8];
        for (int i = 0; i < 8; i++) got[i] = x.faults(i + 1);
        dueRow(what + ": faults", got, want);
    }

    /** Just least .. greatest are no BAD: the call is to use a new object each time. */
    static void dueTaken(String what, int least, int greatest, IntUnaryOperator call) {
        int[] taken = {least, Math.min(least + 1, greatest), Math.max(greatest - 1, least), greatest};
        int[] bad = {least - 1, greatest + 1, LOW, HIGH};
        for (int v : taken) {
            int got = call.applyAsInt(v);
            due(what + ", " + v, got, got < NONE ? 0 : got);
        }
        for (int v : bad) due(what + ", " + v, call.applyAsInt(v), BAD);
    }

    static void finish() {
        System.out.println(asked + " answers looked at, " + wrong + " wrong");
        if (wrong != 0) System.exit(1);
    }

    /** Packets of 12 a frame, from clock 0 on, with a clip of 100 frames and effort 1. */
    static BroadcastPlant plain() {
        BroadcastPlant x = new BroadcastPlant(12, 0);
        x.clip(100, 1);
        return x;
    }

    /** All units have 100 bytes, and so each fits into its clock packet. */
    static BroadcastPlant small() {
        BroadcastPlant x = plain();
        x.total(0);
        return x;
    }

    /** As small, and blocks are of one packet: what is sent comes at once. */
    static BroadcastPlant prompt() {
        BroadcastPlant x = small();
        x.lines(1, 1);
        return x;
    }

    /** In blocks of one packet: nothing is mended when both parities are lost. */
    static void loseForGood(BroadcastPlant x, int n) {
        x.lose(0, n);
        x.lose(1, n);
        x.lose(2, n);
    }

    static BroadcastPlant run(BroadcastPlant x, int frames) {
        for (int left = frames; left > 0; left -= 100) x.tick(Math.min(100, left));
        return x;
    }

    /** The 48 bits of a clock, as bytes. */
    static int[] clock(long base, int rest) {
        long bits = base * 32768 + 63 * 512 + rest;
        int[] bytes = new int[6];
        for (int i = 0; i < 6; i++) bytes[i] = (int) (bits >> 40 - 8 * i & 255);
        return bytes;
    }
}
