import java.util.ArrayList;
import java.util.List;

/**
 * Packets of nothing are altered into packets of wishes, whose checks are right: what the judge and the receivers make
 * of them, with answers worked out by hand. In each run all units fit into their clock packets, blocks are of one packet.
 */
public final class ForgeTest extends Forge {
    public static void main(String[] args) {
        rightUnit();
        wrongUnits();
        unitsOver();
        beginnings();
        pieces();
        lists();
        listsAtTheEnd();
        listsOfSeveral();
        shadowedPid();
        tables();
        breaks();
        finish();
    }

    private static BroadcastPlant plant() {
        BroadcastPlant x = new BroadcastPlant(12, 0);
        x.total(0);
        x.lines(1, 1);
        return x;
    }

    private static BroadcastPlant withUnit(List<Integer> unit, int frames) {
        BroadcastPlant x = plant();
        forge(x, FORGED, CHANNEL, true, 3, unit);
        x.tick(frames);
        for (int i = 0; i < 3; i++) due("the packet was one of nothing", x.sent(FORGED, 1 + i), frames > 20 ? -1 : new int[] {31, 255, 16}[i]);
        return x;
    }

    private static void rightUnit() {
        BroadcastPlant x = withUnit(unit(20), 30);
        dueFaults("one of frame 20, then 3 .. 20 are not above it", x, 0, 0, 1, 0, 0, 0, 0, 18);
        due("decoded", x.shown(0, 20, 0), 1);
        due("there need be no such clip", x.shown(0, 20, 1), 15);
        due("nor frame", x.shown(0, 20, 2), 65535);
        due("frozen ahead of it", x.shown(0, 19, 0), 0);
        due("that of 21 is next to it", x.shown(0, 21, 0), 1);
        due("black again", x.shown(0, 21, 1), -1);
        due("it is not what was given", x.row(0, 0, 2), 3 + 2);
        x = withUnit(unit(20, 0, 20, 16, 0, 0), 30);
        due("without a key it is not next to one", x.shown(0, 20, 0), 0);
        due("nor is that of 21", x.shown(0, 21, 0), 0);
        x = withUnit(unit(3, 0, 3, 0, 0, 0), 12);
        dueFaults("one of frame 3, then that of 3", x, 0, 0, 1, 0, 0, 0, 0, 1);
        due("without a key, next to one", x.shown(0, 3, 0), 1);
        due("black, whatever its frame is", x.shown(0, 3, 2), -1);
        due("as black was given", x.row(0, 0, 2), 5);
        x = withUnit(unit(2999), 10);
        dueFaults("one of the last frame", x, 0, 0, 1, 0, 0, 0, 0, 7);
    }

    private static void wrongUnits() {
        List<List<Integer>> units = new ArrayList<>();
        units.add(unit(3, 0, 3, 17, 2, 0));
        units.add(unit(3, 0, 3, 255, 2, 0));
        units.add(unit(3, 0, 3, 16, 3, 0));
        units.add(unit(3, 0, 3, 16, 255, 0));
        units.add(unit(3, 1, 3, 16, 2, 0));
        units.add(unit(3, 3599, 3, 16, 2, 0));
        units.add(unit(3, 0, 4, 16, 2, 0));
        units.add(unit(3000));
        units.add(unit(-1, 0, 65535, 16, 2, 0));
        units.add(unit(2));
        units.add(unit(1));
        List<Integer> unchecked = unit(3);
        unchecked.set(14, unchecked.get(14) ^ 1);
        units.add(unchecked);
        for (int i = 0; i < units.size(); i++) {
            BroadcastPlant x = withUnit(units.get(i), 12);
            dueFaults("wrong one " + i, x, 0, 0, 1, 0, 0, 0, 0, 1);
            due("that of 3 is as sent", x.shown(0, 3, 1), -1);
            due("and decoded", x.shown(0, 3, 0), 1);
        }
    }

    /** Channel 0's packets of frames 3 .. 15 are lost; one of an older frame comes in frame 15, when 0 .. 7 are over. */
    private static BroadcastPlant withOld(int g) {
        BroadcastPlant x = plant();
        for (int f = 3; f <= 15; f++) {
            int n = f * 12 + (f % 4 == 0 ? 4 : 0);
            x.lose(0, n);
            x.lose(1, n);
            x.lose(2, n);
        }
        forge(x, 15 * 12 + 3, CHANNEL, true, 3, unit(g));
        x.tick(18);
        return x;
    }

    private static void unitsOver() {
        BroadcastPlant x = withOld(7);
        dueFaults("7 is over", x, 0, 0, 1, 0, 1, 0, 0, 1);
        due("and not decoded", x.shown(0, 7, 0), 0);
        x = withOld(8);
        dueFaults("8 is not", x, 0, 0, 1, 0, 1, 0, 0, 0);
        due("and decoded", x.shown(0, 8, 0), 1);
    }

    private static BroadcastPlant withTwo(List<Integer> first, boolean starts, List<Integer> second) {
        BroadcastPlant x = plant();
        forge(x, FORGED, CHANNEL, true, 3, first);
        forge(x, FORGED + 1, CHANNEL, starts, 4, second);
        x.tick(4);
        return x;
    }

    private static void beginnings() {
        List<Integer> one = list(0);
        dueFaults("one byte is something", withTwo(one, true, one), 0, 0, 1, 0, 0, 0, 1, 0);
        dueFaults("six bytes that are right", withTwo(list(0, 0, 1, 224, 0, 24), true, one), 0, 0, 1, 0, 0, 0, 1, 0);
        dueFaults("six bytes that are wrong", withTwo(list(0, 0, 1, 225, 0, 24), true, one), 0, 0, 1, 0, 0, 0, 0, 1);
        dueFaults("24 is the least", withTwo(list(0, 0, 1, 224, 0, 23), true, one), 0, 0, 1, 0, 0, 0, 0, 1);
        dueFaults("3008 is right", withTwo(list(0, 0, 1, 224, 11, 192), true, one), 0, 0, 1, 0, 0, 0, 1, 0);
        dueFaults("3009 is wrong", withTwo(list(0, 0, 1, 224, 11, 193), true, one), 0, 0, 1, 0, 0, 0, 0, 1);
        dueFaults("five bytes are not looked at", withTwo(list(9, 9, 9, 9, 9), true, one), 0, 0, 1, 0, 0, 0, 1, 0);
        dueFaults("the sixth is", withTwo(list(9, 9, 9, 9, 9), false, one), 0, 0, 1, 0, 0, 0, 0, 1);
        BroadcastPlant x = plant();
        forge(x, FORGED, CHANNEL, false, 3, one);
        x.tick(4);
        dueFaults("without a beginning it is passed over", x, 0, 0, 1, 0, 0, 0, 0, 0);
    }

    private static void pieces() {
        List<Integer> unit = unit(3);
        BroadcastPlant x = withTwo(unit.subList(0, 29), false, unit.subList(29, 30));
        dueFaults("29 bytes and one, then that of 3", x, 0, 0, 1, 0, 0, 0, 0, 1);
        x.tick(8);
        due("decoded", x.shown(0, 3, 1), 15);
        x = withTwo(unit.subList(0, 29), false, list(3, 3));
        dueFaults("29 bytes and two", x, 0, 0, 1, 0, 0, 0, 0, 1);
        x = withTwo(unit.subList(0, 3), false, unit.subList(3, 30));
        x.tick(8);
        due("3 bytes and 27", x.shown(0, 3, 1), 15);
        x = plant();
        forge(x, FORGED, CHANNEL, true, 3, unit.subList(0, 20));
        forge(x, FORGED + 1, CHANNEL, false, 5, unit.subList(20, 30));
        x.tick(4);
        dueFaults("a counter that is wrong", x, 0, 0, 2, 0, 0, 0, 0, 0);
    }

    private static BroadcastPlant withList(List<Integer> list) {
        BroadcastPlant x = plant();
        forge(x, FORGED, LIST, true, 1, list);
        x.tick(20);
        return x;
    }

    private static void lists() {
        dueFaults("as it was", withList(listOf(1, 256, 2, 272, 3, 288)), 0, 0, 1, 0, 0, 0, 0, 0);
        dueFaults("the lowest 13 bits count", withList(listOf(1, 256 + 57344, 2, 272 + 8192, 3, 288)), 0, 0, 1, 0, 0, 0, 0, 0);
        dueFaults("other channels are passed over", withList(listOf(0, 7, 1, 256, 4, 7, 257, 7, 2, 272, 65535, 7, 3, 288)), 0, 0, 1, 0, 0, 0, 0, 0);
        BroadcastPlant x = withList(listOf(2, 272, 3, 288));
        dueFaults("0 is not told, its counter is missed", x, 0, 0, 2, 0, 0, 0, 0, 0);
        due("that of 2 came before", x.shown(0, 2, 0), 1);
        due("that of 3 was not looked at", x.shown(0, 3, 0), 0);
        due("that of 12 has a key", x.shown(0, 12, 0), 1);
        due("of channel 1 all came", x.shown(1, 3, 0), 1);
        dueFaults("none is told", withList(listOf()), 0, 0, 4, 0, 0, 0, 0, 0);
        List<Integer> shorter = listOf(1, 256, 2, 272, 3, 288);
        dueFaults("a byte is not in it", withList(shorter.subList(0, 24)), 0, 0, 1, 0, 0, 1, 0, 0);
        dueFaults("no length", withList(list(0, 0, 176)), 0, 0, 1, 0, 0, 1, 0, 0);
        dueFaults("nothing behind its length", withList(list(0, 0, 176, 0)), 0, 0, 1, 0, 0, 1, 0, 0);
        dueFaults("a byte alone", withList(list(0)), 0, 0, 1, 0, 0, 1, 0, 0);
        dueFaults("no multiple of 4", withList(checked(0, 176, 10, 0, 1, 193, 0, 0, 0)), 0, 0, 1, 0, 0, 1, 0, 0);
        dueFaults("below 9", withList(checked(0, 176, 5, 0)), 0, 0, 1, 0, 0, 1, 0, 0);
        dueFaults("another kind", withList(checked(2, 176, 9, 0, 1, 193, 0, 0)), 0, 0, 1, 0, 0, 1, 0, 0);
        dueFaults("the four highest bits do not count", withList(checked(0, 0, 9, 9, 9, 9, 9, 9)), 0, 0, 4, 0, 0, 0, 0, 0);
    }

    /** The last packet of the largest block, where nothing stands behind it. */
    private static void listsAtTheEnd() {
        int[] lengths = {9, 180, 181, 4093, 4095};
        int[] faults = {0, 1, 1, 1, 1};
        for (int i = 0; i < lengths.length; i++) {
            BroadcastPlant x = new BroadcastPlant(12, 0);
            x.total(0);
            x.lines(8, 8);
            List<Integer> list = checked(0, 176 + lengths[i] / 256, lengths[i] % 256, 0, 1, 193, 0, 0);
            forge(x, 63, LIST, true, 2, list);
            x.tick(6);
            due("a length of " + lengths[i], x.faults(6), faults[i]);
        }
    }

    private static void listsOfSeveral() {
        BroadcastPlant x = withList(listOf(1, 256, 2, 272, 3, 288, 2, 500));
        dueFaults("the last counts: another table of channel 1", x, 0, 0, 2, 0, 0, 0, 0, 0);
        due("it is not known in frame 3", x.shown(1, 3, 0), 0);
        x = withList(listOf(1, 256, 2, 500, 3, 288, 2, 272));
        dueFaults("the last counts: the same table", x, 0, 0, 1, 0, 0, 0, 0, 0);
        due("it is known in frame 3", x.shown(1, 3, 0), 1);
        for (int i = 0; i < 65536; i++) {
            List<Integer> section = checked(0, 176, 21, i / 256, i % 256, 193, 0, 0, 0, 1, 1, 0, 0, 2, 1, 16, 0, 3, 1, 32);
            int high = section.get(21) * 256 + section.get(22);
            if (high < 1 || high > 3) continue;
            dueFaults("the check tells of no channel", withList(section), 0, 0, 1, 0, 0, 0, 0, 0);
            return;
        }
        due("a check that begins with a channel was found", 0, 1);
    }

    private static void shadowedPid() {
        BroadcastPlant x = withList(listOf(1, 256, 2, 257, 3, 288));
        dueFaults("channel 0's PID is first a table's", x, 0, 0, 2, 0, 0, 1, 0, 0);
        due("its unit is none", x.shown(0, 3, 0), 0);
        x = withList(listOf(1, 256, 2, 0, 3, 288));
        dueFaults("the list's PID is first the list's", x, 0, 0, 2, 0, 0, 0, 0, 0);
        x = withList(listOf(1, 8191, 2, 272, 3, 288));
        dueFaults("packets of nothing are looked at: 8 of frame 2, 9 of frame 3", x, 0, 0, 2 + 16, 0, 0, 17, 0, 0);
    }

    private static BroadcastPlant withTable(List<Integer> table) {
        BroadcastPlant x = plant();
        forge(x, FORGED, TABLE, true, 1, table);
        x.tick(20);
        return x;
    }

    private static void tables() {
        dueFaults("as it was", withTable(tableOf(18, 1, 257)), 0, 0, 1, 0, 0, 0, 0, 0);
        dueFaults("another channel's", withTable(tableOf(18, 2, 257)), 0, 0, 1, 0, 0, 1, 0, 0);
        dueFaults("another length", withTable(checked(2, 176, 19, 0, 1, 193, 0, 0, 225, 1, 240, 0, 27, 225, 1, 240, 0, 0)), 0, 0, 1, 0, 0, 1, 0, 0);
        dueFaults("another kind", withTable(checked(0, 176, 18, 0, 1, 193, 0, 0, 225, 1, 240, 0, 27, 225, 1, 240, 0)), 0, 0, 1, 0, 0, 1, 0, 0);
        BroadcastPlant x = withTable(tableOf(18, 1, 300));
        dueFaults("another PID, and its counter is missed", x, 0, 0, 2, 0, 0, 0, 0, 0);
        due("that of 3 was not looked at", x.shown(0, 3, 0), 0);
        x = withTable(tableOf(18, 1, 273));
        dueFaults("channel 1's PID is first channel 0's", x, 0, 0, 2, 0, 0, 0, 0, 0);
        due("that of 3 is channel 1's", x.shown(0, 3, 0), 1);
        due("who has none", x.shown(1, 3, 0), 0);

        x = plant();
        forge(x, FORGED, CHANNEL, true, 3, unit(3).subList(0, 20));
        forge(x, FORGED + 1, TABLE, true, 1, tableOf(18, 1, 257));
        forge(x, FORGED + 2, CHANNEL, true, 4, list(0));
        x.tick(4);
        dueFaults("the same PID keeps what is collected", x, 0, 0, 1, 0, 0, 0, 1, 0);
        x = plant();
        forge(x, FORGED, CHANNEL, true, 3, unit(3).subList(0, 20));
        forge(x, FORGED + 1, TABLE, true, 1, tableOf(18, 1, 300));
        forge(x, FORGED + 2, TABLE, true, 2, tableOf(18, 1, 257));
        forge(x, FORGED + 3, CHANNEL, true, 4, list(0));
        x.tick(4);
        dueFaults("another PID does not", x, 0, 0, 1, 0, 0, 0, 0, 0);
    }

    private static void breaks() {
        int[] lefts = {1, 1000, 12000, 12001, 1500, 65535, 0};
        int[] shows = {0, 1, 1, 0, 0, 0, 0};
        for (int i = 0; i < lefts.length; i++) {
            BroadcastPlant x = plant();
            x.local(1000);
            forge(x, FORGED, CHANNEL, true, 3, unit(3, 0, 3, 16, 2, lefts[i]));
            x.tick(14);
            due("left " + lefts[i], x.region(3, 0), shows[i]);
            due("its frame", x.region(3, 1), shows[i] - 1);
            due("then left 0", x.region(4, 0), 0);
        }
        BroadcastPlant x = plant();
        x.local(7);
        forge(x, FORGED, CHANNEL, true, 3, unit(3, 0, 3, 16, 1, 7));
        x.tick(14);
        due("a key of 1 begins none", x.region(3, 0), 0);
    }
}
