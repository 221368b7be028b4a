import java.util.ArrayList;
import java.util.Arrays;
import java.util.List;

/** The bounds that the document's terms 6 to 8 name, each with the last case within it and the first one beyond. */
public final class PathBoundsTest extends Forge {
    public static void main(String[] args) {
        blocks();
        blocksToldAhead();
        mendingByOneParity();
        mendingOfLinesAndColumns();
        mendingOfMany();
        mendingAcrossBlocks();
        heads();
        counters();
        clocks();
        listLengths();
        tableLengths();
        payloadsAtTheEnd();
        pids();
        unitsOfTheFirstFrame();
        unitsOfTheLastFrame();
        unitsOfOtherFrames();
        unitBytes();
        withoutAPayload();
        firstFault();
        over();
        frozenShows();
        blackAlarms();
        freezeAlarms();
        regionOfPieces();
        regionInTrouble();
        finish();
    }

    private static int[] range(int from, int to) {
        int[] numbers = new int[to - from];
        for (int i = 0; i < numbers.length; i++) numbers[i] = from + i;
        return numbers;
    }

    // ---- 6 THE PATH

    private static void blocks() {
        BroadcastPlant x = new BroadcastPlant(13, 0);
        x.total(0);
        x.lines(8, 8);
        run(x, 3000);
        due("6: 609 blocks of 64 of 39000", x.told(2), 609);
        due("8: packet 2998 times 13 less 1 has come, the next such not", x.told(7), 2991);
        due("8: the last frame that is over", x.shown(0, 2990, 0), 1);
        due("8: the next", x.shown(0, 2991, 0), BAD);
        x = new BroadcastPlant(20, 0);
        x.tick(1);
        due("6: 20 at first", x.told(2), 1);
        x = new BroadcastPlant(19, 0);
        x.tick(1);
        due("6: not 19", x.told(2), 0);
    }

    private static void blocksToldAhead() {
        BroadcastPlant x = small();
        x.lines(3, 4);
        x.tick(1);
        due("6: told ahead of the first packet", x.told(2), 1);
        x.lines(8, 8);
        x.lines(4, 3);
        x.tick(1);
        due("6: the last told ahead of the next counts", x.told(2), 2);
        x.lines(8, 2);
        x.tick(1);
        due("6: 12 of 16", x.told(2), 2);
        x.lines(1, 8);
        x.tick(1);
        due("6: 16, then 8 of 8", x.told(2), 4);
        x.lines(0, 1);
        x.lines(9, 1);
        x.tick(1);
        due("6: what is refused tells nothing: 8, and 4 of 8", x.told(2), 5);
    }

    /** How many packets of the first block are mended; 64 packets go in four frames. */
    private static int mended(int columns, int lines, int[] lost, int... parities) {
        BroadcastPlant x = new BroadcastPlant(16, 0);
        x.total(0);
        x.lines(columns, lines);
        for (int n : lost) x.lose(0, n);
        for (int kind : parities) x.lose(kind, 0);
        x.tick(4);
        due("6: lost", x.told(3), lost.length);
        if (x.told(4) == lost.length) due("6: all are as they were", x.faults(0), 0);
        return x.told(4);
    }

    /** One packet of a block: columns, lines, the packet, the kinds of its line's and its column's parity. */
    private static void mendingByOneParity() {
        int[][] cases = {{8, 8, 0, 1, 9}, {8, 8, 63, 8, 16}, {8, 8, 7, 1, 16}, {8, 8, 56, 8, 9}, {1, 1, 0, 1, 2}, {8, 1, 0, 1, 2},
            {8, 1, 7, 1, 9}, {1, 8, 0, 1, 9}, {1, 8, 7, 8, 9}, {5, 4, 19, 4, 9}, {5, 4, 5, 2, 5}, {2, 3, 5, 3, 5}};
        for (int[] c : cases) {
            int[] lost = {c[2]};
            String what = "6: " + Arrays.toString(c);
            due(what + ", no parity is lost", mended(c[0], c[1], lost), 1);
            due(what + ", its line's", mended(c[0], c[1], lost, c[3]), 1);
            due(what + ", its column's", mended(c[0], c[1], lost, c[4]), 1);
            due(what + ", both", mended(c[0], c[1], lost, c[3], c[4]), 0);
            for (int kind = 1; kind <= 16; kind++) {
                if (kind != c[4]) due(what + ", its line's and " + kind, mended(c[0], c[1], lost, c[3], kind), 1);
            }
        }
    }

    private static void mendingOfLinesAndColumns() {
        due("6: two of a line, by their columns", mended(8, 8, new int[] {0, 7}, 1), 2);
        due("6: two of a column, by their lines", mended(8, 8, new int[] {0, 56}, 9), 2);
        due("6: four corners", mended(8, 8, new int[] {0, 7, 56, 63}), 0);
        due("6: three corners", mended(8, 8, new int[] {0, 7, 56}), 3);
        due("6: three corners, one line's parity is lost", mended(8, 8, new int[] {0, 7, 56}, 8), 3);
        due("6: and its column's: 7, then 0", mended(8, 8, new int[] {0, 7, 56}, 8, 9), 2);
        due("6: and the other column's", mended(8, 8, new int[] {0, 7, 56}, 8, 9, 16), 0);
        due("6: a whole line", mended(8, 8, range(0, 8)), 8);
        due("6: a whole line, one column's parity is lost", mended(8, 8, range(0, 8), 9), 8);
        due("6: its own, too", mended(8, 8, range(0, 8), 9, 1), 7);
        due("6: a whole line and one more", mended(8, 8, range(0, 9)), 9);
        due("6: two whole lines", mended(8, 8, range(0, 16)), 0);
    }

    private static void mendingOfMany() {
        due("6: all of one line of 8", mended(8, 1, range(0, 8)), 8);
        due("6: all of one column of 8", mended(1, 8, range(0, 8)), 8);
        due("6: all of 64", mended(8, 8, range(0, 64)), 0);
        due("6: all but one of 64", mended(8, 8, range(0, 63)), 0);
        due("6: all of 2 times 2", mended(2, 2, range(0, 4)), 0);
        due("6: all but one of 2 times 2", mended(2, 2, range(0, 3)), 3);
        int[] diagonal = {0, 9, 18, 27, 36, 45, 54, 63};
        due("6: one of each line", mended(8, 8, diagonal), 8);
        due("6: one of each line, by their columns", mended(8, 8, diagonal, 1, 2, 3, 4, 5, 6, 7, 8), 8);
        due("6: by nothing", mended(8, 8, diagonal, 1, 2, 3, 4, 5, 6, 7, 8, 9, 10, 11, 12, 13, 14, 15, 16), 0);
    }

    private static void mendingAcrossBlocks() {
        BroadcastPlant x = new BroadcastPlant(16, 0);
        x.total(0);
        x.lines(8, 1);
        for (int n = 7; n <= 8; n++) x.lose(0, n);
        for (int kind = 1; kind <= 16; kind++) x.lose(kind, 1);
        x.tick(1);
        due("6: 7 is of block 0 and mended, 8 is of block 1 and not", x.told(4), 1);
        x.lose(0, 16);
        x.tick(1);
        due("6: of block 2 no parity is lost", x.told(4), 2);
        x = prompt();
        x.lines(2, 2);
        x.lose(0, 4);
        x.alter(4, 0, 1);
        x.alter(5, 187, 1);
        x.tick(1);
        dueFaults("6: 4 comes with what 5 was altered by, not with its own", x, 0, 0, 0, 0, 0, 0, 0, 2);
    }

    // ---- 7 WHAT COMES

    private static BroadcastPlant altered(int[]... alterations) {
        BroadcastPlant x = prompt();
        for (int[] a : alterations) x.alter(a[0], a[1], a[2]);
        return run(x, 8);
    }

    /** Packet 11 is of nothing: its field's first byte, and its flags. */
    private static BroadcastPlant withField(boolean payload, int first, int flags) {
        BroadcastPlant x = prompt();
        x.alter(11, 3, payload ? 32 : 48);
        if (first != 255) x.alter(11, 4, first ^ 255);
        if (flags != 255) x.alter(11, 5, flags ^ 255);
        return run(x, 2);
    }

    private static void heads() {
        for (int bit = 0; bit < 8; bit++) {
            due("7: the first byte, bit " + bit, altered(new int[] {11, 0, 1 << bit}).faults(1), 1);
            due("7: the second, bit " + bit, altered(new int[] {11, 1, 1 << bit}).faults(1), bit == 7 ? 1 : 0);
        }
        int[] firsts = {0, 1, 6, 7, 8, 182, 183, 184, 255};
        int[] with = {0, 0, 0, 0, 0, 0, 1, 1, 1}, without = {0, 0, 0, 0, 0, 0, 0, 1, 1};
        int[] clockWith = {0, 1, 1, 0, 0, 0, 1, 1, 1}, clockWithout = {0, 1, 1, 0, 0, 0, 0, 1, 1};
        for (int i = 0; i < firsts.length; i++) {
            due("7: field of " + firsts[i], withField(true, firsts[i], 255 ^ 16).faults(2), with[i]);
            due("7: field without a payload of " + firsts[i], withField(false, firsts[i], 255 ^ 16).faults(2), without[i]);
            due("7: field with a clock of " + firsts[i], withField(true, firsts[i], 16).faults(2), clockWith[i]);
            due("7: both of " + firsts[i], withField(false, firsts[i], 16).faults(2), clockWithout[i]);
        }
        for (int marks = 0; marks < 4; marks++) {
            BroadcastPlant x = prompt();
            if (marks != 1) x.alter(11, 3, 16 ^ marks * 16);
            x.alter(11, 4, 255);
            x.tick(1);
            due("7: neither payload nor field, " + marks, x.faults(2), marks == 0 ? 1 : 0);
        }
    }

    /** The counter of channel 0's packet in frame 16, where 0 is due; the next one's is 1. */
    private static void counters() {
        for (int counter = 0; counter < 16; counter++) {
            BroadcastPlant x = prompt();
            if (counter > 0) x.alter(16 * 12 + 4, 3, counter);
            x.tick(18);
            due("7: 0 behind 15, it is " + counter, x.faults(3), counter == 0 ? 0 : 2);
            due("7: the unit comes all the same", x.faults(8), 0);
        }
        for (int counter = 0; counter < 16; counter++) {
            BroadcastPlant x = prompt();
            x.alter(16 * 12 + 4, 3, 16 + counter);
            x.tick(18);
            due("7: without a payload 15 is due, it is " + counter, x.faults(3), (counter == 15 ? 0 : 1) + (counter == 0 ? 0 : 1));
        }
        for (int counter = 0; counter < 16; counter++) {
            BroadcastPlant x = prompt();
            if (counter > 0) x.alter(4, 3, counter);
            x.tick(1);
            due("7: the first one may have any", x.faults(0), 0);
        }
    }

    private static void clocks() {
        for (int bit = 0; bit < 48; bit++) {
            dueFaults("7: bit " + bit, altered(new int[] {12, 6 + bit / 8, 1 << bit % 8}), 0, 0, 0, 1, 0, 0, 0, 0);
        }
        dueFaults("7: 36 behind 24 is not above 36", altered(new int[] {36, 5, 16}, new int[] {52, 5, 16}), 0, 0, 0, 0, 0, 0, 0, 0);
        BroadcastPlant x = prompt();
        x.alter(25, 5, 16);
        x.alter(37, 5, 16);
        x.tick(4);
        x.service(0, false);
        x.service(2, false);
        x.tick(1);
        dueBytes("7: channel 1's clock packet", x, 50, 1, 65, 17);
        dueFaults("7: 50 is 37 behind 13", x, 0, 0, 0, 0, 1, 0, 0, 0);
        due("7: that is its packet", x.told(5), 50);
        x = prompt();
        x.alter(25, 5, 16);
        x.alter(37, 6, 128);
        x.tick(4);
        x.service(0, false);
        x.service(2, false);
        x.tick(1);
        dueFaults("7: a wrong one counts", x, 0, 0, 0, 1, 0, 0, 0, 0);
    }

    /** A list of so many lines: the last three tell the channels as they are. */
    private static List<Integer> listOfLines(int lines) {
        int[] numbersAndPids = new int[2 * lines];
        for (int i = 0; i < lines; i++) {
            int c = i - (lines - 3);
            numbersAndPids[2 * i] = c >= 0 ? c + 1 : 1 + i % 5;
            numbersAndPids[2 * i + 1] = c >= 0 ? 256 + 16 * c : 4000 + i;
        }
        return listOf(numbersAndPids);
    }

    private static BroadcastPlant with(int pid, List<Integer> payload) {
        BroadcastPlant x = prompt();
        forge(x, FORGED, pid, true, 1, payload);
        return run(x, 4);
    }

    private static void listLengths() {
        List<Integer> list = listOfLines(42);
        due("7: 42 lines have 181 bytes", list.size(), 181);
        dueFaults("7: a list of 177", with(LIST, list), 0, 0, 0, 0, 0, 0, 0, 0);
        dueFaults("7: one byte is missing", with(LIST, list.subList(0, 180)), 0, 0, 0, 0, 0, 1, 0, 0);
        List<Integer> longer = new ArrayList<>(list);
        for (int i = 0; i < 3; i++) longer.add(7);
        dueFaults("7: 184 bytes, what is behind does not count", with(LIST, longer), 0, 0, 0, 0, 0, 0, 0, 0);
        dueFaults("7: 181 would need 185 bytes", with(LIST, listOfLines(43).subList(0, 184)), 0, 0, 0, 0, 0, 1, 0, 0);
        dueFaults("7: a list of 9", with(LIST, listOf()), 0, 0, 0, 0, 0, 0, 0, 0);
        due("7: has 13 bytes", listOf().size(), 13);
        dueFaults("7: of 12 bytes", with(LIST, listOf().subList(0, 12)), 0, 0, 0, 0, 0, 1, 0, 0);
        int[] zs = {0, 1, 4, 5, 6, 7, 8, 9, 10, 11, 12, 13};
        for (int z : zs) {
            int[] bytes = new int[Math.max(3, z - 1)];
            bytes[1] = 176;
            bytes[2] = z;
            due("7: a list of " + z, with(LIST, checked(bytes)).faults(6), z == 9 || z == 13 ? 0 : 1);
        }
        dueFaults("7: the highest four bits do not count", with(LIST, checked(0, 240, 9, 0, 1, 193, 0, 0)), 0, 0, 0, 0, 0, 0, 0, 0);
        dueFaults("7: the twelfth does", with(LIST, checked(0, 184, 9, 0, 1, 193, 0, 0)), 0, 0, 0, 0, 0, 1, 0, 0);
    }

    private static List<Integer> tableOfLength(int z, int number) {
        int[] bytes = new int[Math.max(3, z - 1)];
        int[] table = {2, 176, z, number / 256, number % 256, 193, 0, 0, 225, 1, 240, 0, 27, 225, 1, 240, 0};
        System.arraycopy(table, 0, bytes, 0, Math.min(bytes.length, table.length));
        return checked(bytes);
    }

    private static void tableLengths() {
        due("7: a table has 22 bytes", tableOfLength(18, 1).size(), 22);
        for (int z = 5; z <= 22; z++) due("7: a table of " + z, with(TABLE, tableOfLength(z, 1)).faults(6), z == 18 ? 0 : 1);
        for (int number : new int[] {0, 1, 2, 3, 4, 256, 257, 65535}) {
            due("7: a table of channel " + number, with(TABLE, tableOfLength(18, number)).faults(6), number == 1 ? 0 : 1);
        }
        dueFaults("7: one byte is missing", with(TABLE, tableOfLength(18, 1).subList(0, 21)), 0, 0, 0, 0, 0, 1, 0, 0);
        List<Integer> longer = new ArrayList<>(tableOfLength(18, 1));
        longer.add(0);
        dueFaults("7: one more does not count", with(TABLE, longer), 0, 0, 0, 0, 0, 0, 0, 0);
    }

    /** Short payloads in the last packet of the largest block, where there is nothing behind them. */
    private static void payloadsAtTheEnd() {
        for (int size = 1; size <= 24; size++) {
            for (int pid : new int[] {LIST, TABLE}) {
                BroadcastPlant x = small();
                x.lines(8, 8);
                List<Integer> bytes = pid == LIST ? listOf() : tableOf(18, 1, 257);
                List<Integer> payload = new ArrayList<>(bytes.subList(0, Math.min(size, bytes.size())));
                while (payload.size() < size) payload.add(0);
                forge(x, 63, pid, true, 2, payload);
                x.tick(6);
                due("7: " + size + " bytes of PID " + pid, x.faults(6), size < bytes.size() ? 1 : 0);
            }
        }
        for (int size = 1; size <= 184; size++) {
            BroadcastPlant x = small();
            x.lines(8, 8);
            List<Integer> payload = new ArrayList<>(list(0, 0, 1, 224, 11, 192).subList(0, Math.min(size, 6)));
            while (payload.size() < size) payload.add(0);
            forge(x, 63, CHANNEL, true, 6, payload);
            x.tick(6);
            dueFaults("7: " + size + " bytes of a unit", x, 0, 0, 0, 0, 0, 0, 0, 0);
        }
    }

    private static void pids() {
        BroadcastPlant x = prompt();
        forge(x, FORGED, TABLE, true, 1, tableOf(18, 1, 8191));
        x.tick(5);
        dueFaults("7: the largest PID: 17 packets of nothing, then both PIDs miss one", x, 0, 0, 16 + 2, 0, 0, 0, 0, 0);
        x = prompt();
        forge(x, FORGED, TABLE, true, 1, tableOf(18, 1, 0));
        x.tick(5);
        dueFaults("7: PID 0 is the list's", x, 0, 0, 2, 0, 0, 0, 0, 0);
        x = prompt();
        forge(x, FORGED, TABLE, true, 1, tableOf(18, 1, 256));
        x.tick(5);
        dueFaults("7: PID 256 is the table's", x, 0, 0, 2, 0, 0, 0, 0, 0);
        due("7: its channel has none", x.shown(0, 3, 0), BAD);
        x.tick(7);
        due("7: not shown", x.shown(0, 3, 0), 0);
    }

    /** The unit of frame 0 is broken, and another one comes in its place. */
    private static BroadcastPlant withFirst(List<Integer> unit) {
        BroadcastPlant x = prompt();
        x.alter(4, 187, 1);
        forge(x, 7, CHANNEL, true, 1, unit);
        return run(x, 10);
    }

    private static void unitsOfTheFirstFrame() {
        for (int key = 0; key <= 3; key++) {
            BroadcastPlant x = withFirst(unit(0, 0, 0, 1, key, 0));
            due("7: key " + key, x.faults(8), key == 3 ? 2 : 1);
            due("7: frame 0 is decoded by a key alone", x.shown(0, 0, 0), key == 1 || key == 2 ? 1 : 0);
            due("7: and so is the next", x.shown(0, 1, 0), key == 1 || key == 2 ? 1 : 0);
            due("7: its clip", x.shown(0, 0, 1), key == 1 || key == 2 ? 0 : NONE);
        }
        for (int number : new int[] {0, 1, 15, 16, 17, 18, 127, 128, 255}) {
            BroadcastPlant x = withFirst(unit(0, 0, 0, number, 2, 0));
            due("7: number " + number, x.faults(8), number > 16 ? 2 : 1);
            due("7: its clip", x.shown(0, 0, 1), number > 16 ? NONE : number - 1);
            due("7: decoded", x.shown(0, 0, 0), number > 16 ? 0 : 1);
        }
        for (int ticks : new int[] {-3600, -1, 0, 1, 3599, 3600}) {
            BroadcastPlant x = withFirst(unit(0, ticks, 0, 1, 2, 0));
            due("7: stamp and " + ticks, x.faults(8), ticks == 0 ? 1 : 2);
        }
    }

    private static void unitsOfTheLastFrame() {
        for (int g : new int[] {2998, 2999, 3000, 3001}) {
            BroadcastPlant x = withFirst(unit(g));
            due("7: frame " + g, x.faults(8), g > 2999 ? 2 : 1 + 9);
        }
    }

    private static void unitsOfOtherFrames() {
        for (int told : new int[] {0, 1, 2, 3, 4, 256, 259, 65535}) {
            BroadcastPlant x = prompt();
            forge(x, FORGED, CHANNEL, true, 3, unit(3, 0, told, 1, 2, 0));
            x.tick(3);
            due("7: it tells frame " + told, x.faults(8), told == 3 ? 0 : 1);
        }
        for (int g = 0; g < 6; g++) {
            BroadcastPlant x = prompt();
            forge(x, FORGED, CHANNEL, true, 3, unit(g));
            x.tick(3);
            due("7: the last right one was of 2, this of " + g, x.faults(8), g > 2 ? 0 : 1);
        }
        for (int g = 3; g < 6; g++) {
            BroadcastPlant x = prompt();
            forge(x, FORGED, CHANNEL, true, 3, unit(g, 0, g, 1, 0, 0));
            x.tick(14);
            due("7: the last decoded one was of 2, this of " + g, x.shown(0, g, 0), g == 3 ? 1 : 0);
        }
    }

    private static void unitBytes() {
        List<Integer> unit = unit(3);
        for (int i = 0; i < 30; i++) {
            for (int bit = 0; bit < 8; bit++) {
                List<Integer> wrong = new ArrayList<>(unit);
                wrong.set(i, wrong.get(i) ^ 1 << bit);
                BroadcastPlant x = prompt();
                forge(x, FORGED, CHANNEL, true, 3, wrong);
                forge(x, FORGED + 1, CHANNEL, true, 4, list(0));
                x.tick(3);
                boolean longer = i == 4 && bit < 4 || i == 5 && (24 ^ 1 << bit) > 24;
                int want = longer && 6 + (wrong.get(4) * 256 + wrong.get(5)) <= 3014 ? 7 : 8;
                due("7: byte " + i + ", bit " + bit + ", fault 7", x.faults(7), want == 7 ? 1 : 0);
                due("7: byte " + i + ", bit " + bit + ", fault 8", x.faults(8), want == 8 ? 1 : 0);
            }
        }
    }

    /** What stands behind a field in a packet without a payload is nothing's, whatever the field's length is. */
    private static void withoutAPayload() {
        List<Integer> unit = unit(3);
        for (int behind : new int[] {1, 20, 182, 183}) {
            for (boolean starts : new boolean[] {false, true}) {
                BroadcastPlant x = prompt();
                forge(x, FORGED, CHANNEL, true, 3, unit.subList(0, 20));
                forgeField(x, FORGED + 1, CHANNEL, starts, 3, behind);
                forge(x, FORGED + 2, CHANNEL, false, 4, unit.subList(20, 30));
                x.tick(3);
                dueFaults("7: a field of " + behind + " ends nothing", x, 0, 0, 0, 0, 0, 0, 0, 0);
                x.tick(9);
                due("7: the unit is whole", x.shown(0, 3, 1), 15);
                x = prompt();
                forgeField(x, FORGED, LIST, starts, 0, behind);
                forgeField(x, FORGED + 1, TABLE, starts, 0, behind);
                x.tick(5);
                dueFaults("7: nor is it a list or a table", x, 0, 0, 0, 0, 0, 0, 0, 0);
            }
        }
    }

    private static void firstFault() {
        BroadcastPlant x = altered(new int[] {24, 3, 1}, new int[] {24, 6, 1}, new int[] {24, 187, 1}, new int[] {30, 0, 1});
        dueFaults("7: of one packet", x, 1, 0, 2, 1, 0, 0, 0, 1);
        due("7: the first one's packet", x.told(5), 24);
        due("7: its number", x.told(6), 3);
        x = altered(new int[] {5, 6, 1}, new int[] {4, 187, 1}, new int[] {3, 4, 1});
        due("7: the first one's packet", x.told(5), 3);
        due("7: its number", x.told(6), 6);
    }

    // ---- 8 WHAT IS SHOWN

    /** Blocks of so many packets in one line: how many frames are over when 96 and when 108 packets were sent. */
    private static void over() {
        int[] columns = {1, 2, 3, 4, 5, 6, 7, 8};
        int[] first = {1, 1, 1, 1, 0, 1, 0, 1}, then = {2, 2, 2, 2, 1, 2, 1, 1};
        for (int i = 0; i < columns.length; i++) {
            BroadcastPlant x = small();
            x.lines(columns[i], 1);
            x.tick(7);
            due("8: 84 were sent", x.told(7), 0);
            x.tick(1);
            due("8: packet 95 in blocks of " + columns[i], x.told(7), first[i]);
            x.tick(1);
            due("8: packet 107", x.told(7), then[i]);
        }
    }

    private static void frozenShows() {
        BroadcastPlant x = prompt();
        x.event(0, FOLLOW, 0, 0, 100);
        x.event(1, FOLLOW, 0, 0, 100);
        x.alter(4, 187, 1);
        x.alter(13, 187, 1);
        x.tick(21);
        for (int f = 0; f < 12; f++) dueRow("8: nothing yet, frame " + f, shownOf(x, 0, f), 0, NONE, NONE);
        dueRow("8: then the key", shownOf(x, 0, 12), 1, 0, 12);
        dueRow("8: the first", shownOf(x, 1, 0), 1, 0, 0);
        for (int f = 1; f < 12; f++) dueRow("8: frozen, frame " + f, shownOf(x, 1, f), 0, 0, 0);
        dueRow("8: then the key", shownOf(x, 1, 12), 1, 0, 12);
    }

    private static int[] shownOf(BroadcastPlant x, int channel, int frame) {
        return new int[] {x.shown(channel, frame, 0), x.shown(channel, frame, 1), x.shown(channel, frame, 2)};
    }

    private static int[] alarmOf(BroadcastPlant x, int channel, int k) {
        return new int[] {x.alarm(channel, k, 0), x.alarm(channel, k, 1), x.alarm(channel, k, 2)};
    }

    private static void blackAlarms() {
        BroadcastPlant x = prompt();
        x.event(0, FIXED, 9, 0, 1);
        x.event(0, FIXED, 20, 0, 1);
        x.event(1, FIXED, 10, 0, 1);
        x.event(1, FIXED, 21, 0, 1);
        x.tick(16);
        due("8: frame 8 is over: none", x.told(10), 0);
        x.tick(1);
        due("8: frame 9 is over", x.told(10), 1);
        dueRow("8: it goes on", alarmOf(x, 1, 0), 0, 9, NONE);
        x.tick(1);
        dueRow("8: it ends with frame 10", alarmOf(x, 1, 0), 0, 9, 10);
        x.tick(22);
        dueRow("8: 10 .. 19 are ten", alarmOf(x, 0, 0), 0, 19, 20);
        dueRow("8: 11 .. 20 are ten", alarmOf(x, 1, 1), 0, 20, 21);
        due("8: 0 .. 8 were nine; then 21 .. 30", x.told(9), 2);
        due("8: and 22 .. 31", x.told(10), 3);
        dueRow("8: that goes on", alarmOf(x, 1, 2), 0, 31, NONE);
    }

    /** The unit of the frame is not right: freeze up to the next key. */
    private static void freezeAlarms() {
        for (int f = 5; f <= 11; f++) {
            BroadcastPlant x = prompt();
            x.event(0, FOLLOW, 0, 0, 100);
            x.alter(f * 12 + (f == 8 ? 4 : 0), 187, 1);
            x.tick(24);
            due("8: freeze in " + f + " .. 11", x.told(9), f <= 7 ? 1 : 0);
            if (f <= 7) dueRow("8: that", alarmOf(x, 0, 0), 1, f + 4, 12);
        }
        BroadcastPlant x = prompt();
        x.alter(4, 187, 1);
        x.tick(24);
        dueRow("8: freeze from frame 0 on", alarmOf(x, 0, 0), 1, 4, 12);
        dueRow("8: and black", alarmOf(x, 0, 1), 0, 9, NONE);
    }

    private static int[] regionOf(BroadcastPlant x, int frame) {
        return new int[] {x.region(frame, 0), x.region(frame, 1)};
    }

    private static void regionOfPieces() {
        for (int length = 1; length <= 14; length++) {
            BroadcastPlant x = prompt();
            x.local(1);
            x.event(0, BREAK, 0, 0, length);
            x.tick(30);
            int out = length <= 12 ? length : 0;
            for (int f = 0; f < 20; f++) {
                dueRow("8: a break of " + length + ", frame " + f, regionOf(x, f), f < out ? 1 : 0, f < out ? 0 : NONE);
            }
        }
        BroadcastPlant x = prompt();
        x.local(3);
        x.event(0, BREAK, 0, 0, 2);
        x.event(0, BREAK, 0, 0, 3);
        x.event(0, BREAK, 0, 0, 4);
        x.event(0, BREAK, 0, 0, 6);
        x.tick(24);
        for (int f = 0; f < 16; f++) {
            boolean out = f >= 2 && f < 5 || f >= 9 && f < 15;
            due("8: breaks of 2, 3, 4, 6 by 3, frame " + f, x.region(f, 0), out ? 1 : 0);
            due("8: its frame", x.region(f, 1), !out ? NONE : f < 5 ? f - 2 : (f - 9) % 3);
        }
        x = prompt();
        x.tick(1);
        x.event(0, BREAK, 0, 0, 5);
        x.tick(7);
        x.local(5);
        x.tick(1);
        due("8: told ahead of the packet with which frame 1 is over", x.region(1, 0), 1);
        x = prompt();
        x.tick(1);
        x.event(0, BREAK, 0, 0, 5);
        x.tick(8);
        x.local(5);
        x.tick(8);
        for (int f = 1; f < 6; f++) due("8: told too late", x.region(f, 0), 0);
    }

    private static void regionInTrouble() {
        BroadcastPlant x = prompt();
        x.local(4);
        x.event(0, BREAK, 0, 0, 8);
        x.alter(2 * 12, 187, 1);
        x.tick(24);
        for (int f = 0; f < 8; f++) due("8: it goes on while channel 0 is frozen, " + f, x.region(f, 1), f % 4);
        due("8: up to the end of its pieces, though that end is not decoded", x.region(8, 0), 0);
        due("8: 8 begins a row", x.shown(0, 8, 0), 1);
        x = prompt();
        x.local(4);
        x.event(0, BREAK, 0, 0, 4);
        x.tick(1);
        x.overrun(0, 4);
        x.tick(20);
        for (int f = 0; f < 9; f++) due("8: what is overrun is shown by channel 0, " + f, x.region(f, 0), f < 4 ? 1 : 0);
        x = prompt();
        x.local(4);
        x.event(0, BREAK, 0, 0, 8);
        x.tick(3);
        x.fail(0, 0, 1);
        x.tick(20);
        for (int f = 0; f < 12; f++) {
            due("8: a failing player has left 0; then 4 of 8 frames are left and closed, " + f, x.region(f, 0), f < 3 || f >= 4 && f < 8 ? 1 : 0);
        }
    }
}
