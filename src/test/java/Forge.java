import java.util.ArrayList;
import java.util.Arrays;
import java.util.List;

/** Packets of nothing are altered into packets of wishes, whose checks are right. */
abstract class Forge extends Answers {
    static final int LIST = 0, TABLE = 256, CHANNEL = 257;
    /** The first packet of nothing in frame 2, with 12 packets a frame; channel 0's packet of that frame has counter 2. */
    static final int FORGED = 2 * 12 + 3;

    static List<Integer> list(int... bytes) {
        List<Integer> list = new ArrayList<>();
        for (int b : bytes) list.add(b);
        return list;
    }

    /** A unit with its header; the stamp is that of frame g and ticks more, the frame that it tells is told. */
    static List<Integer> unit(int g, int ticks, int told, int number, int key, int left) {
        List<Integer> body = new ArrayList<>();
        Model.two(body, told);
        body.add(number);
        Model.two(body, 65535);
        body.add(key);
        Model.two(body, left);
        for (int i = 0; i < 4; i++) body.add(i);
        long s = 3600L * (g + 8) + ticks;
        List<Integer> all = list(0, 0, 1, 224, 0, 24, 128, 128, 5, 33 + 2 * (int) (s >> 30), (int) (s >> 22 & 255),
            1 + 2 * (int) (s >> 15 & 127), (int) (s >> 7 & 255), 1 + 2 * (int) (s & 127));
        Model.four(all, Model.check(body));
        all.addAll(body);
        return all;
    }

    static List<Integer> unit(int g) {
        return unit(g, 0, g, 16, 2, 0);
    }

    /** A list or a table behind its byte 0, with its check. */
    static List<Integer> checked(int... bytes) {
        List<Integer> section = list(bytes);
        Model.four(section, Model.check(section));
        section.add(0, 0);
        return section;
    }

    static List<Integer> listOf(int... numbersAndPids) {
        int[] bytes = new int[8 + 2 * numbersAndPids.length];
        int[] head = {0, 176, 9 + 2 * numbersAndPids.length, 0, 1, 193, 0, 0};
        System.arraycopy(head, 0, bytes, 0, 8);
        for (int i = 0; i < numbersAndPids.length; i++) {
            bytes[8 + 2 * i] = numbersAndPids[i] / 256;
            bytes[9 + 2 * i] = numbersAndPids[i] % 256;
        }
        return checked(bytes);
    }

    static List<Integer> tableOf(int z, int number, int pid) {
        return checked(2, 176, z, 0, number, 193, 0, 0, 225, 1, 240, 0, 27, 224 + pid / 256, pid % 256, 240, 0);
    }

    /** Packet n, which is one of nothing, comes with this payload at its end. */
    static void forge(BroadcastPlant x, int n, int pid, boolean starts, int counter, List<Integer> payload) {
        int field = 184 - payload.size();
        int[] bytes = head(pid, starts, (field > 0 ? 48 : 16) + counter);
        if (field > 0) bytes[4] = field - 1;
        if (field > 1) bytes[5] = 0;
        for (int i = 0; i < payload.size(); i++) bytes[4 + field + i] = payload.get(i);
        replace(x, n, bytes);
    }

    /** Packet n, which is one of nothing, comes with a field alone, without flags, that has so many bytes behind its first. */
    static void forgeField(BroadcastPlant x, int n, int pid, boolean starts, int counter, int behind) {
        int[] bytes = head(pid, starts, 32 + counter);
        bytes[4] = behind;
        bytes[5] = 0;
        replace(x, n, bytes);
    }

    private static int[] head(int pid, boolean starts, int marks) {
        int[] bytes = new int[188];
        Arrays.fill(bytes, 255);
        bytes[0] = 71;
        bytes[1] = (starts ? 64 : 0) + pid / 256;
        bytes[2] = pid % 256;
        bytes[3] = marks;
        return bytes;
    }

    private static void replace(BroadcastPlant x, int n, int[] bytes) {
        int[] nothing = {71, 31, 255, 16};
        for (int i = 0; i < 188; i++) {
            int mask = bytes[i] ^ (i < 4 ? nothing[i] : 255);
            if (mask != 0 && x.alter(n, i, mask) < 0) throw new IllegalStateException("packet " + n + ", byte " + i);
        }
    }
}
