import java.util.Arrays;

/** The document's promises one by one, with answers worked out by hand from its words. */
public final class PromisesTest extends Answers {
    public static void main(String[] args) {
        newObject();
        beginWithoutSign();
        clip();
        fill();
        fillOfHoles();
        local();
        event();
        eventsOfARow();
        skip();
        take();
        hold();
        overrun();
        fail();
        set();
        shares();
        buffer();
        total();
        service();
        lines();
        lose();
        mending();
        alter();
        tick();
        eventOf();
        source();
        rows();
        unit();
        sentTables();
        sentUnits();
        sentWithoutRoom();
        stored();
        shown();
        shownOfAnySize();
        region();
        regionEnds();
        alarm();
        faultsOfHeads();
        faultsOfCounters();
        faultsOfClocks();
        faultsOfTables();
        faultsOfUnits();
        told();
        readme();
        finish();
    }

    // ---- 1

    private static void newObject() {
        int[] least = {LOW, -1, 0, 11, 12}, greatest = {40, 41, HIGH};
        for (int p : least) {
            BroadcastPlant x = new BroadcastPlant(p, 0);
            x.tick(1);
            due("1: packets of a frame with " + p, x.told(1), 12);
        }
        for (int p : greatest) {
            BroadcastPlant x = new BroadcastPlant(p, 0);
            x.tick(1);
            due("1: packets of a frame with " + p, x.told(1), 40);
        }
        BroadcastPlant x = new BroadcastPlant(20, 7);
        int[] told = {0, 0, 0, 0, 0, NONE, NONE, 0, 0, 0, 0, 0};
        for (int i = 0; i < told.length; i++) due("1: told " + i, x.told(i), told[i]);
        for (int c = 0; c < 3; c++) {
            due("1: rows", x.rows(c), 0);
            due("1: stored", x.stored(c), 0);
            due("1: buffer", x.buffer(c, 1000), 8000);
            due("1: no event", x.eventOf(c, 0, 0), BAD);
            due("1: hold", x.hold(c, false), 0);
            due("1: service", x.service(c, true), 1);
        }
        due("1: no clip", x.fill(0), BAD);
        due("1: first local", x.local(3), 1);
        due("1: total", x.total(0), 2000);
        x.tick(1);
        for (int c = 0; c < 3; c++) due("1: least", x.unit(c, 0, 1), 100);
        x.total(9000);
        x.tick(1);
        for (int c = 0; c < 3; c++) due("1: greatest", x.unit(c, 1, 1), 1500);
    }

    private static void beginWithoutSign() {
        BroadcastPlant x = new BroadcastPlant(13, -1);
        x.total(0);
        x.tick(1);
        dueBytes("1: begin is 2^33 - 2, clock", x, 4, 6, 0, 0, 2, 40, 254, 207);
        x.tick(20);
        due("1: stamps and clocks go over 2^33", x.faults(0), 0);
        due("1: and are shown", x.shown(1, 5, 0), 1);
        x = new BroadcastPlant(13, 0xAAAAAAAA);
        x.total(0);
        x.tick(1);
        dueBytes("1: a clock with high bits", x, 4, 6, 170, 170, 172, 211, 254, 207);
        dueBytes("1: a stamp with high bits", x, 4, 188 - 114, 0, 0, 1, 224, 0, 108, 128, 128, 5, 43, 85, 87, 139, 169);
        x.tick(20);
        due("1: high bits come", x.faults(0), 0);
        x = new BroadcastPlant(13, -1);
        x.total(0);
        x.tick(1);
        dueBytes("1: begin is 2^33 - 2, stamp", x, 4, 188 - 114, 0, 0, 1, 224, 0, 108, 128, 128, 5, 33, 0, 1, 224, 253);
        x = new BroadcastPlant(13, 0);
        x.total(0);
        x.tick(1);
        dueBytes("1: a clock with a rest", x, 5, 6, 0, 0, 2, 180, 126, 184);
    }

    // ---- 2 .. 4

    private static void clip() {
        BroadcastPlant x = new BroadcastPlant(12, 0);
        due("2: least", x.clip(1, 1), 0);
        due("2: greatest", x.clip(1000, 100), 1);
        int[][] bad = {{0, 1}, {1001, 1}, {1, 0}, {1, 101}, {LOW, 1}, {HIGH, 1}, {1, LOW}, {1, HIGH}};
        for (int[] b : bad) due("2: " + Arrays.toString(b), x.clip(b[0], b[1]), BAD);
        for (int i = 2; i < 16; i++) due("2: clip", x.clip(5, 5), i);
        due("2: full", x.clip(5, 5), FULL);
        due("2: bad ahead of full", x.clip(0, 5), BAD);
        due("2: clip 15 is there", x.fill(15), 1);
        due("2: clip 16 is not", x.fill(16), BAD);
    }

    private static void fill() {
        BroadcastPlant x = new BroadcastPlant(12, 0);
        x.clip(3, 1);
        x.clip(4, 1);
        int[] bad = {-1, 2, LOW, HIGH};
        for (int b : bad) due("3: no such clip", x.fill(b), BAD);
        int[] clips = {0, 1, 0, 0, 1, 1};
        for (int i = 0; i < 6; i++) due("3: fill", x.fill(clips[i]), i + 1);
        due("3: full", x.fill(0), FULL);
        due("3: bad ahead of full", x.fill(2), BAD);
    }

    private static void fillOfHoles() {
        BroadcastPlant x = new BroadcastPlant(12, 0);
        int[] lengths = {7, 5, 3, 5};
        for (int length : lengths) x.clip(length, 1);
        for (int i = 0; i < 4; i++) x.fill(i);
        x.event(0, FIXED, 19, 0, 2);
        x.event(1, FIXED, 2, 0, 2);
        x.event(2, FIXED, 4, 0, 3);
        x.tick(21);
        int[] firsts = {0, 7, 14, 19};
        int[] pieces = {0, 0, 1};
        for (int i = 0; i < 4; i++) due("3: 19 is 7 + 7 + 5, row", x.row(0, i, 0), firsts[i]);
        for (int i = 0; i < 3; i++) due("3: 19 is 7 + 7 + 5, fill", x.source(0, firsts[i], 1), pieces[i]);
        due("3: nothing fits into 2", x.source(1, 0, 0), 0);
        due("3: behind the event the first fill", x.source(1, 4, 1), 0);
        due("3: its clip", x.source(1, 4, 2), 0);
        due("3: 4 is not closed, the longest within it", x.source(2, 0, 1), 2);
        due("3: then nothing fits into 1", x.source(2, 3, 0), 0);
        due("3: the event", x.source(2, 4, 0), 1);

        x = new BroadcastPlant(12, 0);
        x.clip(1, 1);
        x.clip(5, 1);
        x.clip(5, 1);
        for (int i = 0; i < 3; i++) x.fill(i);
        x.event(0, FIXED, 61, 0, 1);
        x.event(1, FIXED, 12, 0, 1);
        x.event(2, FIXED, 56, 0, 1);
        x.tick(1);
        due("3: 61 is no row of 12, the first of the longest", x.source(0, 0, 1), 1);
        due("3: 12 is 1 + 1 + 5 + 5", x.source(1, 0, 1), 0);
        due("3: 56 is a row of 12", x.source(2, 0, 1), 0);

        x = plain();
        x.clip(4, 1);
        x.fill(1);
        x.event(0, FOLLOW, 0, 0, 2);
        x.tick(5);
        x.event(0, FOLLOW, 0, 0, 2);
        x.tick(3);
        due("3: a piece is gone as an event is on", x.source(0, 5, 0), 1);
        due("3: a piece begins anew", x.source(0, 7, 3), 0);
    }

    private static void local() {
        BroadcastPlant x = new BroadcastPlant(12, 0);
        int[] bad = {0, -1, 1001, LOW, HIGH};
        for (int b : bad) due("4: " + b, x.local(b), BAD);
        due("4: least", x.local(1), 1);
        due("4: greatest", x.local(1000), 2);
        for (int i = 3; i <= 6; i++) due("4: local", x.local(9), i);
        due("4: full", x.local(9), FULL);
        due("4: bad ahead of full", x.local(0), BAD);
    }

    // ---- 5 .. 10

    private static void event() {
        BroadcastPlant x = plain();
        int[][] bad = {
            {-1, 0, 0, 0, 1}, {3, 0, 0, 0, 1}, {0, -1, 0, 0, 1}, {0, 4, 0, 0, 1}, {0, 0, 1, 0, 1}, {0, 2, -1, 0, 1},
            {0, 3, 5, 0, 1}, {0, 0, 0, -1, 1}, {0, 0, 0, 1, 1}, {0, 0, 0, 0, 0}, {0, 0, 0, 0, 1001}, {0, 1, -1, 0, 1},
            {0, 1, 3000, 0, 1}, {LOW, 0, 0, 0, 1}, {0, HIGH, 0, 0, 1}, {0, 1, HIGH, 0, 1}, {0, 0, 0, LOW, 1}, {0, 0, 0, 0, HIGH}};
        for (int[] b : bad) due("5: " + Arrays.toString(b), x.event(b[0], b[1], b[2], b[3], b[4]), BAD);
        due("5: least", x.event(0, FOLLOW, 0, 0, 1), 0);
        due("5: greatest", x.event(0, MANUAL, 0, 0, 1000), 1);
        due("5: fixed", x.event(0, FIXED, 10, 0, 1), 2);
        due("5: not above the fixed one", x.event(0, FIXED, 10, 0, 1), BAD);
        due("5: above it", x.event(0, FIXED, 11, 0, 1), 3);
        due("5: another channel", x.event(1, FIXED, 10, 0, 1), 0);
        x.skip(0, 3);
        due("5: a skipped fixed one counts", x.event(0, FIXED, 11, 0, 1), BAD);
        x.tick(5);
        due("5: ahead of now", x.event(2, FIXED, 4, 0, 1), BAD);
        due("5: now", x.event(2, FIXED, 5, 0, 1), 0);
        due("5: the last frame", x.event(2, FIXED, 2999, 0, 1), 1);
        for (int i = 2; i < 60; i++) due("5: event", x.event(2, BREAK, 0, 0, 1), i);
        due("5: full", x.event(2, FOLLOW, 0, 0, 1), FULL);
        due("5: bad ahead of full", x.event(2, FOLLOW, 0, 0, 0), BAD);
        due("5: not full", x.event(1, FOLLOW, 0, 0, 1), 1);
    }

    private static void eventsOfARow() {
        BroadcastPlant x = plain();
        x.event(0, FOLLOW, 0, 0, 20);
        x.event(0, BREAK, 0, 0, 3);
        x.event(0, MANUAL, 0, 0, 3);
        x.event(0, FIXED, 10, 0, 4);
        x.event(0, BREAK, 0, 0, 3);
        x.event(0, MANUAL, 0, 0, 3);
        x.event(0, FOLLOW, 0, 0, 3);
        x.tick(25);
        int[] states = {3, 4, 4, 2, 2, 0, 0};
        int[] hads = {10, 0, 0, 4, 3, 0, 0};
        int[] firsts = {0, NONE, NONE, 10, 14, NONE, NONE};
        for (int e = 0; e < 7; e++) {
            due("5: state of " + e, x.eventOf(0, e, 0), states[e]);
            due("5: had of " + e, x.eventOf(0, e, 1), hads[e]);
            due("5: first of " + e, x.eventOf(0, e, 3), firsts[e]);
        }
        due("5: a manual one waits, and the follower behind it", x.source(0, 17, 0), 0);

        x = new BroadcastPlant(12, 0);
        x.clip(4, 1);
        x.event(0, FOLLOW, 0, 0, 10);
        x.tick(10);
        int[] frames = {0, 1, 2, 3, 0, 1, 2, 3, 0, 1};
        for (int f = 0; f < 10; f++) due("5: frame modulo the clip's length", x.source(0, f, 3), frames[f]);
    }

    private static void skip() {
        BroadcastPlant x = plain();
        x.event(0, FOLLOW, 0, 0, 5);
        x.event(0, FOLLOW, 0, 0, 5);
        x.event(0, FOLLOW, 0, 0, 5);
        int[][] bad = {{-1, 0}, {3, 0}, {0, -1}, {0, 3}, {1, 0}, {LOW, 0}, {0, HIGH}};
        for (int[] b : bad) due("6: " + Arrays.toString(b), x.skip(b[0], b[1]), BAD);
        due("6: planned", x.skip(0, 1), 1);
        due("6: skipped", x.skip(0, 1), BAD);
        x.tick(1);
        due("6: on", x.skip(0, 0), BAD);
        x.tick(5);
        due("6: ended", x.skip(0, 0), BAD);
        due("6: what is skipped is not on", x.source(0, 5, 1), 2);
        due("6: its state", x.eventOf(0, 1, 0), 4);
    }

    private static void take() {
        BroadcastPlant x = plain();
        int[] bad = {-1, 3, LOW, HIGH};
        for (int b : bad) due("7: " + b, x.take(b), BAD);
        x.event(0, FOLLOW, 0, 0, 50);
        x.event(0, MANUAL, 0, 0, 2);
        x.event(0, FIXED, 40, 0, 50);
        x.event(0, FOLLOW, 0, 0, 50);
        x.tick(3);
        due("7: take", x.take(0), 1);
        due("7: take again", x.take(0), 1);
        x.tick(1);
        due("7: cut", x.eventOf(0, 0, 0), 3);
        due("7: had", x.eventOf(0, 0, 1), 3);
        due("7: a manual one is on", x.source(0, 3, 1), 1);
        x.take(0);
        x.tick(1);
        due("7: cut again", x.eventOf(0, 1, 0), 3);
        due("7: a fixed one is not taken", x.source(0, 4, 0), 0);
        due("7: and nothing behind it", x.eventOf(0, 3, 0), 0);
        x.tick(35);
        x.take(0);
        x.tick(1);
        due("7: the fixed one goes ahead of the take", x.eventOf(0, 2, 0), 1);
        x.tick(1);
        due("7: which is asked no more", x.eventOf(0, 2, 0), 1);
    }

    private static void hold() {
        BroadcastPlant x = plain();
        int[] bad = {-1, 3, LOW, HIGH};
        for (int b : bad) due("8: " + b, x.hold(b, true), BAD);
        x.event(0, BREAK, 0, 0, 3);
        x.event(0, FOLLOW, 0, 0, 3);
        x.event(0, FIXED, 12, 0, 3);
        due("8: none before", x.hold(0, true), 0);
        due("8: one before", x.hold(0, true), 1);
        x.tick(6);
        due("8: held", x.eventOf(0, 0, 0), 1);
        due("8: the last frame stays", x.source(0, 5, 3), 2);
        due("8: left", x.unit(0, 2, 3), 1);
        due("8: left is not below 0", x.unit(0, 5, 3), 0);
        due("8: held before", x.hold(0, false), 1);
        x.tick(1);
        due("8: ended", x.eventOf(0, 0, 0), 2);
        due("8: the next is on", x.source(0, 6, 1), 1);
        due("8: off before", x.hold(0, true), 0);
        x.tick(6);
        due("8: a hold does not keep off a fixed one", x.source(0, 12, 1), 2);
        due("8: which cuts", x.eventOf(0, 1, 0), 3);
    }

    private static void overrun() {
        BroadcastPlant x = plain();
        x.event(0, BREAK, 0, 0, 1000);
        x.event(1, FOLLOW, 0, 0, 2);
        due("9: none is on", x.overrun(0, 1), BAD);
        x.tick(1);
        int[][] bad = {{-1, 1}, {3, 1}, {0, 0}, {1, 1001}, {0, LOW}, {0, HIGH}, {2, 1}};
        for (int[] b : bad) due("9: " + Arrays.toString(b), x.overrun(b[0], b[1]), BAD);
        due("9: one more", x.overrun(0, 1), 1001);
        due("9: above 2000", x.overrun(0, 1000), BAD);
        due("9: up to 2000", x.overrun(0, 999), 2000);
        due("9: its length", x.eventOf(0, 0, 2), 2000);
        due("9: one of two", x.overrun(1, 3), 5);
        x.tick(5);
        due("9: five frames", x.eventOf(1, 0, 1), 5);
        due("9: then it ended", x.eventOf(1, 0, 0), 2);
        due("9: the next frames of the clip", x.source(1, 4, 3), 4);
        due("9: left", x.unit(0, 1, 3), 1999);
        due("9: ended", x.overrun(1, 1), BAD);
    }

    private static void fail() {
        BroadcastPlant x = plain();
        int[][] bad = {{-1, 0, 1}, {3, 0, 1}, {0, -1, 1}, {0, 2, 1}, {0, 0, 0}, {0, 0, 1001}, {0, 0, LOW}, {0, 0, HIGH}};
        for (int[] b : bad) due("10: " + Arrays.toString(b), x.fail(b[0], b[1], b[2]), BAD);
        x.event(0, BREAK, 0, 0, 50);
        due("10: most", x.fail(0, 0, 1000), 1);
        due("10: this alone counts", x.fail(0, 0, 2), 1);
        due("10: the other one", x.fail(0, 1, 2), 1);
        x.tick(6);
        int[] what = {0, 0, 1, 1, 1, 1}, player = {0, 1, 0, 0, 0, 0}, left = {0, 0, 48, 47, 46, 45};
        for (int f = 0; f < 6; f++) {
            due("10: source of " + f, x.source(0, f, 0), what[f]);
            due("10: player of " + f, x.source(0, f, 4), player[f]);
            due("10: left of " + f, x.unit(0, f, 3), left[f]);
        }
        due("10: had counts on", x.eventOf(0, 0, 1), 6);
        due("10: no clip", x.source(0, 0, 2), NONE);
        due("10: two rows", x.rows(0), 2);
        x.fail(0, 1, 1000);
        x.tick(2);
        due("10: a player that is not in use", x.source(0, 7, 0), 1);
        x.fail(0, 0, 1);
        x.tick(1);
        due("10: it fails", x.source(0, 8, 0), 0);
        x.fail(0, 1, 1);
        x.tick(1);
        due("10: then the other one", x.source(0, 9, 0), 0);
        x.tick(1);
        due("10: then neither", x.source(0, 10, 0), 1);

        x = new BroadcastPlant(12, 0);
        x.clip(3, 1);
        x.fill(0);
        x.fail(0, 0, 1);
        x.tick(4);
        due("10: a piece counts on", x.source(0, 1, 3), 1);
        due("10: black, the rest of the piece, the next", x.rows(0), 3);
        due("10: that begins at 3", x.row(0, 2, 0), 3);
    }

    // ---- 11 .. 15

    private static void set() {
        BroadcastPlant x = plain();
        int[][] bad = {
            {-1, 16, 16, 1}, {3, 16, 16, 1}, {0, 15, 16, 1}, {0, 1001, 1001, 1}, {0, 100, 99, 1}, {0, 16, 3001, 1},
            {0, 16, 16, 0}, {0, 16, 16, 101}, {0, LOW, 16, 1}, {0, 16, HIGH, 1}, {0, 16, 16, HIGH}};
        for (int[] b : bad) due("11: " + Arrays.toString(b), x.set(b[0], b[1], b[2], b[3]), BAD);
        x.tick(1);
        int[] sizes = {667, 667, 666};
        for (int c = 0; c < 3; c++) due("11: nothing was changed", x.unit(c, 0, 1), sizes[c]);
        due("11: least ones", x.set(0, 16, 16, 1), 1);
        due("11: greatest ones", x.set(1, 1000, 3000, 100), 1);
        x.tick(1);
        due("11: the frame before stays", x.unit(0, 0, 1), 667);
        int[] then = {16, 1804, 180};
        for (int c = 0; c < 3; c++) due("11: from the next frame on", x.unit(c, 1, 1), then[c]);
    }

    private static void shares() {
        BroadcastPlant x = new BroadcastPlant(12, 0);
        x.clip(10, 20);
        x.clip(10, 5);
        x.event(0, FOLLOW, 0, 0, 10);
        x.event(1, FOLLOW, 0, 1, 10);
        x.set(0, 16, 3000, 1);
        x.set(1, 16, 3000, 1);
        x.set(2, 16, 3000, 5);
        x.total(300);
        x.tick(2);
        int[] sizes = {200, 50, 50};
        for (int c = 0; c < 3; c++) due("11: by 20, 5, and 5 of black", x.unit(c, 0, 1), sizes[c]);
        for (int c = 0; c < 3; c++) due("11: as before without keys", x.unit(c, 1, 1), sizes[c]);
        x.total(305);
        x.tick(1);
        int[] more = {204, 51, 50};
        for (int c = 0; c < 3; c++) due("11: 204 / 20 is 51 / 5, the lowest of like ones", x.unit(c, 2, 1), more[c]);
        x.set(0, 16, 120, 1);
        x.tick(1);
        int[] cut = {120, 93, 92};
        for (int c = 0; c < 3; c++) due("11: one has its greatest", x.unit(c, 3, 1), cut[c]);
        x.set(2, 16, 3000, 10);
        x.fail(0, 0, 1);
        x.set(0, 16, 3000, 1);
        x.total(390);
        x.tick(1);
        int[] key = {65, 108, 217};
        for (int c = 0; c < 3; c++) due("11: values 3, 5, 10", x.unit(c, 4, 1), key[c]);
        x = new BroadcastPlant(12, 0);
        for (int c = 0; c < 3; c++) x.set(c, 16, 3000, 1);
        x.tick(11);
        x.fill(x.clip(50, 1));
        x.total(210);
        x.tick(2);
        for (int c = 0; c < 3; c++) due("11: like ones", x.unit(c, 11, 1), 70);
        due("11: a row of fill began", x.unit(0, 11, 2), 2);
        x.service(2, false);
        x.tick(4);
        x.service(2, true);
        x.tick(4);
        int[] one = {42, 42, 126};
        for (int c = 0; c < 3; c++) due("11: a key of 1 counts three times", x.unit(c, 20, 1), one[c]);
        due("11: it is one", x.unit(2, 20, 2), 1);
    }

    private static void buffer() {
        BroadcastPlant x = plain();
        int[][] bad = {{-1, 1000}, {3, 1000}, {0, 999}, {0, 20001}, {0, LOW}, {0, HIGH}};
        for (int[] b : bad) due("12: " + Arrays.toString(b), x.buffer(b[0], b[1]), BAD);
        due("12: it was", x.buffer(0, 20000), 8000);
        due("12: it was then", x.buffer(0, 1000), 20000);
        due("12: of another channel", x.buffer(1, 1000), 8000);
        x.set(0, 1000, 1000, 1);
        x.total(0);
        x.tick(1);
        due("12: 176 + 4 times 184, 102 have no room", x.stored(0), 912);
        due("12: not sent", x.unit(0, 0, 0), 1);
        x.buffer(0, 1014);
        x.tick(1);
        due("12: just room for the rest", x.unit(0, 0, 0), 2);
        due("12: all of it", x.stored(0), 1014);
    }

    private static void total() {
        BroadcastPlant x = plain();
        int[] bad = {-1, 9001, LOW, HIGH};
        for (int b : bad) due("13: " + b, x.total(b), BAD);
        due("13: it was", x.total(9000), 2000);
        due("13: it was then", x.total(0), 9000);
        due("13: and then", x.total(301), 0);
        x.tick(1);
        int[] sizes = {101, 100, 100};
        for (int c = 0; c < 3; c++) due("13: one byte for the lowest", x.unit(c, 0, 1), sizes[c]);
        x.total(300);
        x.tick(1);
        for (int c = 0; c < 3; c++) due("13: not below it", x.unit(c, 1, 1), 100);
    }

    private static void service() {
        BroadcastPlant x = small();
        int[] bad = {-1, 3, LOW, HIGH};
        for (int b : bad) due("14: " + b, x.service(b, false), BAD);
        x.tick(1);
        due("14: in it at first", x.service(1, false), 1);
        due("14: told so", x.service(1, false), 0);
        x.tick(3);
        due("14: not before a multiple of 4", x.unit(1, 3, 0), 2);
        due("14: version", x.told(8), 0);
        x.service(2, false);
        x.tick(1);
        due("14: out of it", x.unit(1, 4, 0), 0);
        due("14: one more for both", x.told(8), 1);
        dueBytes("14: the list", x, 48, 4, 0, 0, 176, 13, 0, 1, 195, 0, 0, 0, 1, 225, 0);
        dueBytes("14: then the table of 0", x, 49, 1, 65, 0, 17);
        dueBytes("14: then its clock", x, 50, 1, 65, 1);
        dueBytes("14: then nothing", x, 51, 1, 31, 255, 16);
        x.service(1, true);
        x.service(1, false);
        x.tick(4);
        due("14: told back ahead of time", x.told(8), 1);
        due("14: as told last", x.service(1, true), 0);
        x.tick(4);
        due("14: back", x.told(8), 2);
        due("14: a key, as none was made before", x.unit(1, 12, 2), 1);
        due("14: then none", x.unit(1, 13, 0), BAD);
        dueBytes("14: the counter goes on", x, 144 + 4, 1, 65, 17, 52);

        x = plain();
        x.service(0, false);
        x.tick(1);
        due("14: also in frame 0", x.unit(0, 0, 0), 0);
        due("14: version of that", x.told(8), 1);
        x.service(1, false);
        x.service(2, false);
        x.tick(4);
        dueBytes("14: none at all", x, 48, 0, 71, 64, 0, 17, 0, 0, 176, 9, 0, 1, 197, 0, 0);
        dueBytes("14: nothing else", x, 49, 0, 71, 31, 255, 16);
        for (int i = 0; i < 30; i++) {
            x.service(0, i % 2 == 0);
            x.tick(4);
        }
        due("14: modulo 32", x.told(8), 0);
    }

    private static void lines() {
        BroadcastPlant x = small();
        int[][] bad = {{0, 1}, {9, 1}, {1, 0}, {1, 9}, {LOW, 1}, {1, HIGH}};
        for (int[] b : bad) due("15: " + Arrays.toString(b), x.lines(b[0], b[1]), BAD);
        x.tick(1);
        due("15: 12 of 20", x.told(2), 0);
        due("15: for the next", x.lines(1, 1), 1);
        x.tick(1);
        due("15: 20, then 4 of one", x.told(2), 5);
        x.lines(8, 8);
        x.tick(5);
        due("15: 60 of 64", x.told(2), 5);
        x.lines(2, 3);
        x.tick(1);
        due("15: 64, then 6 and 2", x.told(2), 7);
    }

    // ---- 16, 17

    private static void lose() {
        BroadcastPlant x = small();
        x.tick(2);
        int[][] bad = {{-1, 30}, {17, 30}, {0, 23}, {0, -1}, {0, 36000}, {1, 0}, {1, -1}, {1, 200001}, {16, HIGH}, {0, LOW}};
        for (int[] b : bad) due("16: " + Arrays.toString(b), x.lose(b[0], b[1]), BAD);
        due("16: the next", x.lose(0, 24), 1);
        due("16: the last", x.lose(0, 35999), 2);
        due("16: twice", x.lose(0, 24), 3);
        due("16: the block that goes", x.lose(1, 1), 4);
        due("16: a parity that it has not", x.lose(16, 1), 5);
        due("16: the last block", x.lose(9, 200000), 6);
        x.tick(1);
        due("16: 24 is gone", x.lose(0, 40), 5);
        due("16: lost once", x.told(3), 1);
        x.tick(1);
        due("16: block 1 is gone, and 40", x.lose(0, 50), 3);
        for (int i = 4; i <= 300; i++) due("16: told", x.lose(0, 100), i);
        due("16: full", x.lose(0, 100), FULL);
        due("16: full", x.lose(3, 9), FULL);
        due("16: bad ahead of full", x.lose(0, 47), BAD);
        due("16: nothing of the other", x.alter(100, 0, 1), 1);
        x.tick(1);
        due("16: 50 is gone", x.lose(0, 100), 300 - 1 + 1);
        x.tick(5);
        due("16: lost", x.told(3), 4);
    }

    private static void mending() {
        BroadcastPlant x = small();
        x.lines(2, 2);
        x.lose(0, 1);
        x.lose(0, 5);
        x.lose(1, 1);
        x.lose(0, 9);
        x.lose(1, 2);
        x.lose(4, 2);
        x.tick(1);
        due("16: three lost", x.told(3), 3);
        due("16: by its line, by its column, not at all", x.told(4), 2);
        due("16: nothing was missed", x.faults(0), 0);
        for (int n = 12; n < 16; n++) x.lose(0, n);
        x.tick(1);
        due("16: four of four are not mended", x.told(4), 2);
        for (int n = 24; n < 27; n++) x.lose(0, n);
        x.tick(1);
        due("16: three of four are, one by one", x.told(4), 5);

        x = small();
        x.lines(2, 2);
        x.lose(0, 3);
        x.alter(1, 20, 1);
        x.tick(1);
        due("16: lines go ahead of columns", x.faults(6), 1);
        x = small();
        x.lines(2, 2);
        x.lose(0, 3);
        x.lose(2, 0);
        x.alter(1, 20, 1);
        x.tick(1);
        due("16: others count as they came", x.faults(6), 2);
        x = small();
        x.lines(2, 2);
        x.lose(0, 3);
        x.lose(2, 0);
        x.alter(1, 0, 1);
        x.alter(1, 187, 1);
        x.tick(1);
        due("16: from the first byte on", x.faults(1), 2);
        x = small();
        x.lines(1, 1);
        x.lose(0, 0);
        x.alter(0, 0, 1);
        x.tick(1);
        due("16: one alone is its parity", x.told(4), 1);
        due("16: what is lost is not altered", x.faults(0), 0);
        due("16: sent all the same", x.sent(0, 0), 71);
    }

    private static void alter() {
        BroadcastPlant x = small();
        x.tick(1);
        int[][] bad = {{11, 0, 1}, {-1, 0, 1}, {36000, 0, 1}, {12, -1, 1}, {12, 188, 1}, {12, 0, 0}, {12, 0, 256}, {LOW, 0, 1}, {HIGH, 0, 1}};
        for (int[] b : bad) due("17: " + Arrays.toString(b), x.alter(b[0], b[1], b[2]), BAD);
        due("17: the next", x.alter(12, 0, 1), 1);
        due("17: joined", x.alter(12, 0, 3), 2);
        due("17: twice is none", x.alter(13, 0, 255), 3);
        due("17: twice is none", x.alter(13, 0, 255), 4);
        due("17: the last", x.alter(35999, 187, 255), 5);
        x.tick(1);
        due("17: those are gone", x.alter(24, 187, 1), 2);
        due("17: one of the two packets", x.faults(1), 1);
        due("17: as it was sent", x.sent(12, 0), 71);
        for (int i = 3; i <= 300; i++) due("17: told", x.alter(100, 4, 1), i);
        due("17: full", x.alter(100, 4, 1), FULL);
        due("17: bad ahead of full", x.alter(100, 4, 0), BAD);
        due("17: nothing of the other", x.lose(0, 100), 1);
    }

    // ---- 18 .. 23

    private static void tick() {
        BroadcastPlant x = small();
        int[] bad = {0, -1, 101, LOW, HIGH};
        for (int b : bad) due("18: " + b, x.tick(b), BAD);
        due("18: one", x.tick(1), 1);
        due("18: most", x.tick(100), 101);
        for (int i = 2; i <= 29; i++) x.tick(100);
        due("18: to 2999", x.tick(98), 2999);
        due("18: full", x.tick(2), FULL);
        due("18: bad ahead of full", x.tick(101), BAD);
        due("18: the last", x.tick(1), 3000);
        due("18: no more", x.tick(1), FULL);
        due("18: now", x.told(0), 3000);
        due("18: all packets", x.told(1), 36000);
        due("18: frames over", x.told(7), 2993);
        due("18: no faults", x.faults(0), 0);
        due("18: no frame is left", x.event(0, FIXED, 2999, 0, 1), BAD);
        due("18: no packet is left", x.lose(0, 35999), BAD);
        due("18: none", x.alter(36000, 0, 1), BAD);
        due("18: the last shown", x.shown(0, 2992, 0), 1);
        due("18: not shown", x.shown(0, 2993, 0), BAD);
    }

    private static void eventOf() {
        BroadcastPlant x = plain();
        x.event(2, FOLLOW, 0, 0, 3);
        x.event(2, MANUAL, 0, 0, 7);
        int[][] bad = {{-1, 0, 0}, {3, 0, 0}, {2, -1, 0}, {2, 2, 0}, {2, 0, -1}, {2, 0, 4}, {0, 0, 0}, {LOW, 0, 0}, {2, HIGH, 0}, {2, 0, HIGH}};
        for (int[] b : bad) due("19: " + Arrays.toString(b), x.eventOf(b[0], b[1], b[2]), BAD);
        int[] planned = {0, 0, 3, NONE}, on = {1, 2, 3, 0}, ended = {2, 3, 3, 0}, waiting = {0, 0, 7, NONE};
        for (int w = 0; w < 4; w++) due("19: planned, " + w, x.eventOf(2, 0, w), planned[w]);
        x.tick(2);
        for (int w = 0; w < 4; w++) due("19: on, " + w, x.eventOf(2, 0, w), on[w]);
        x.tick(1);
        due("19: it had its length and is on", x.eventOf(2, 0, 0), 1);
        x.tick(1);
        for (int w = 0; w < 4; w++) due("19: ended, " + w, x.eventOf(2, 0, w), ended[w]);
        for (int w = 0; w < 4; w++) due("19: waiting, " + w, x.eventOf(2, 1, w), waiting[w]);
    }

    private static void source() {
        BroadcastPlant x = plain();
        x.clip(2, 1);
        x.fill(0);
        x.fill(1);
        x.event(0, FOLLOW, 0, 0, 2);
        x.event(0, FIXED, 4, 1, 3);
        due("20: not run", x.source(0, 0, 0), BAD);
        x.tick(8);
        int[][] bad = {{-1, 0, 0}, {3, 0, 0}, {0, -1, 0}, {0, 8, 0}, {0, 0, -1}, {0, 0, 5}, {LOW, 0, 0}, {0, HIGH, 0}, {0, 0, HIGH}};
        for (int[] b : bad) due("20: " + Arrays.toString(b), x.source(b[0], b[1], b[2]), BAD);
        int[][] rows = {{1, 0, 0, 0, 0}, {1, 0, 0, 1, 0}, {2, 1, 1, 0, 0}, {2, 1, 1, 1, 0}, {1, 1, 1, 0, 0}, {1, 1, 1, 1, 0},
            {1, 1, 1, 0, 0}, {2, 0, 0, 0, 0}};
        for (int f = 0; f < 8; f++) for (int w = 0; w < 5; w++) due("20: frame " + f + ", " + w, x.source(0, f, w), rows[f][w]);
        x.fail(0, 0, 1);
        x.tick(2);
        int[][] then = {{0, NONE, NONE, NONE, 0}, {2, 0, 0, 2, 1}};
        for (int f = 0; f < 2; f++) for (int w = 0; w < 5; w++) due("20: failed, " + w, x.source(0, 8 + f, w), then[f][w]);
    }

    private static void rows() {
        BroadcastPlant x = small();
        int[] bad = {-1, 3, LOW, HIGH};
        for (int b : bad) due("21: " + b, x.rows(b), BAD);
        due("22: none yet", x.row(0, 0, 0), BAD);
        x.event(0, FOLLOW, 0, 0, 5);
        x.event(0, FOLLOW, 0, 0, 5);
        x.tick(6);
        x.fail(0, 0, 2);
        x.tick(3);
        x.fail(0, 1, 1);
        x.tick(21);
        int[] firsts = {0, 5, 6, 7, 9}, sizes = {5, 1, 1, 2, 21};
        due("21: event, event, black, event, black", x.rows(0), 5);
        for (int k = 0; k < 5; k++) {
            due("22: first of " + k, x.row(0, k, 0), firsts[k]);
            due("22: frames of " + k, x.row(0, k, 1), sizes[k]);
        }
        int over = 23;
        due("22: over", x.told(7), over);
        due("22: all right", x.row(0, 0, 2), 5);
        due("22: black as this", x.row(0, 2, 2), 1);
        due("22: those that are over", x.row(0, 4, 2), over - 9);
        int[][] wrongs = {{-1, 0, 0}, {3, 0, 0}, {0, -1, 0}, {0, 5, 0}, {0, 0, -1}, {0, 0, 3}, {LOW, 0, 0}, {0, HIGH, 0}, {0, 0, HIGH}};
        for (int[] b : wrongs) due("22: " + Arrays.toString(b), x.row(b[0], b[1], b[2]), BAD);

        x = small();
        x.event(0, FOLLOW, 0, 0, 30);
        x.lines(1, 1);
        x.alter(24, 187, 1);
        x.tick(30);
        due("22: behind a lost one none is decoded up to a key", x.row(0, 0, 2), 2 + (23 - 12));
        due("22: frames of it", x.row(0, 0, 1), 30);
    }

    private static void unit() {
        BroadcastPlant x = plain();
        due("23: not run", x.unit(0, 0, 0), BAD);
        x.event(1, BREAK, 0, 0, 30);
        x.set(0, 1000, 3000, 10);
        x.set(1, 20, 20, 10);
        x.buffer(0, 1000);
        x.total(0);
        x.tick(9);
        int[][] bad = {{-1, 0, 0}, {3, 0, 0}, {0, -1, 0}, {0, 9, 0}, {0, 0, -1}, {0, 0, 5}, {LOW, 0, 0}, {0, HIGH, 0}, {0, 0, HIGH}};
        for (int[] b : bad) due("23: " + Arrays.toString(b), x.unit(b[0], b[1], b[2]), BAD);
        int[] late = {3, 1000, 2, 0, NONE}, sent = {2, 20, 2, 30, 5}, later = {2, 20, 0, 29, 13};
        for (int w = 0; w < 5; w++) due("23: late, " + w, x.unit(0, 0, w), late[w]);
        for (int w = 0; w < 5; w++) due("23: sent, " + w, x.unit(1, 0, w), sent[w]);
        for (int w = 0; w < 5; w++) due("23: sent later, " + w, x.unit(1, 1, w), later[w]);
        due("23: not sent yet", x.unit(0, 1, 0), 1);
        x.service(0, false);
        x.tick(7);
        due("23: late at 11", x.unit(0, 3, 0), 3);
        int[] dropped = {4, 1000, 0, 0, NONE}, none = {0, 0, 0, 0, NONE};
        for (int w = 0; w < 5; w++) due("23: dropped at 12, ahead of late, " + w, x.unit(0, 4, w), dropped[w]);
        for (int w = 0; w < 5; w++) due("23: none, " + w, x.unit(0, 12, w), none[w]);
        due("23: a key at 12", x.unit(1, 12, 2), 1);
        due("23: none at 13", x.unit(1, 13, 2), 0);
        BroadcastPlant y = plain();
        y.set(0, 1000, 1000, 1);
        y.buffer(0, 1000);
        y.tick(1);
        y.service(0, false);
        y.tick(4);
        for (int f = 0; f < 4; f++) due("23: dropped at 4, of frame " + f, y.unit(0, f, 0), 4);
        x.service(0, true);
        x.tick(15);
        due("23: back, at 16", x.unit(0, 16, 2), 1);
        due("23: a key at 24", x.unit(1, 24, 2), 1);
        due("23: another row at 30", x.unit(1, 30, 2), 2);
    }

    // ---- 24, 25

    private static void sentTables() {
        BroadcastPlant x = new BroadcastPlant(12, 0);
        due("24: none", x.sent(0, 0), NONE);
        due("24: bad ahead of none", x.sent(0, 188), BAD);
        x.total(0);
        x.tick(1);
        int[][] tables = {
            {71, 64, 0, 16, 0, 0, 176, 21, 0, 1, 193, 0, 0, 0, 1, 225, 0, 0, 2, 225, 16, 0, 3, 225, 32, 52, 72, 49, 99, 255},
            {71, 65, 0, 16, 0, 2, 176, 18, 0, 1, 193, 0, 0, 225, 1, 240, 0, 27, 225, 1, 240, 0, 79, 196, 61, 27, 255},
            {71, 65, 16, 16, 0, 2, 176, 18, 0, 2, 193, 0, 0, 225, 17, 240, 0, 27, 225, 17, 240, 0, 194, 187, 181, 24, 255},
            {71, 65, 32, 16, 0, 2, 176, 18, 0, 3, 193, 0, 0, 225, 33, 240, 0, 27, 225, 33, 240, 0, 254, 40, 78, 103, 255}};
        for (int n = 0; n < 4; n++) {
            dueBytes("24: a table", x, n, 0, tables[n]);
            due("24: to the end", x.sent(n, 187), 255);
        }
        dueBytes("24: nothing", x, 11, 0, 71, 31, 255, 16, 255, 255);
        due("24: to the end", x.sent(11, 187), 255);
        int[][] bad = {{0, -1}, {0, 188}, {99, 188}, {0, LOW}, {0, HIGH}};
        for (int[] b : bad) due("24: " + Arrays.toString(b), x.sent(b[0], b[1]), BAD);
        int[] none = {-1, 12, LOW, HIGH};
        for (int n : none) due("24: packet " + n, x.sent(n, 0), NONE);
        x.tick(21);
        due("24: 264 were sent, 8 is the first that is kept", x.sent(8, 0), 71);
        due("24: 7 is not", x.sent(7, 0), NONE);
        x.tick(3);
        dueBytes("24: the list's counter", x, 240, 0, 71, 64, 0, 16 + 20 / 4, 0, 0, 176);
        dueBytes("24: the list's counter", x, 288, 0, 71, 64, 0, 16 + 24 / 4, 0, 0, 176);
    }

    private static void sentUnits() {
        BroadcastPlant x = new BroadcastPlant(12, 0);
        x.tick(1);
        dueBytes("24: a clock and the beginning", x, 4, 0, 71, 65, 1, 48, 7, 80, 0, 0, 2, 88, 126, 0,
            0, 0, 1, 224, 2, 163, 128, 128, 5, 33, 0, 1, 225, 1,
            199, 20, 206, 6, 0, 0, 0, 0, 0, 2, 0, 0, 0, 220, 4, 101, 170, 31, 173, 29, 90, 218, 229, 172);
        dueBytes("24: the next bytes", x, 7, 0, 71, 1, 1, 17);
        dueBytes("24: the next bytes", x, 8, 0, 71, 1, 1, 18);
        dueBytes("24: the last 137 bytes", x, 9, 0, 71, 1, 1, 51, 46, 0, 255);
        due("24: up to the field's end", x.sent(9, 50), 255);
        due("24: the packet with its last byte", x.unit(0, 0, 4), 9);
        dueBytes("24: then channel 1", x, 10, 0, 71, 1, 17, 17);
        x.tick(1);
        dueBytes("24: the unit before goes on with the clock", x, 13, 0, 71, 1, 17, 48 + 3, 46, 16);
        due("24: its last bytes", x.unit(1, 0, 4), 13);

        x = new BroadcastPlant(12, 0);
        x.clip(100, 1);
        x.event(1, BREAK, 0, 0, 20);
        for (int c = 0; c < 3; c++) x.set(c, 40, 40, 1);
        x.tick(2);
        dueBytes("24: no key", x, 13, 0, 71, 65, 17, 49, 129, 16);
        dueBytes("24: a whole unit", x, 13, 188 - 54, 0, 0, 1, 224, 0, 48, 128, 128, 5, 33, 0, 1, 253, 33,
            154, 29, 252, 223, 0, 1, 1, 0, 1, 0, 0, 19, 51, 231, 54, 124, 136, 244, 231, 28, 97, 127, 18, 16, 89, 53, 134, 200,
            174, 104, 38, 47, 211, 171, 84, 168, 180, 47, 28, 202);

        x = new BroadcastPlant(12, 0);
        x.set(0, 16, 16, 1);
        x.set(1, 16, 16, 1);
        x.set(2, 345, 345, 1);
        x.tick(1);
        dueBytes("24: 359 bytes are 176 and 183", x, 7, 0, 71, 1, 33, 49, 0);
        due("24: sent with it", x.unit(2, 0, 4), 7);
        x.set(2, 346, 346, 1);
        x.tick(1);
        dueBytes("24: 360 bytes are 176 and 184", x, 15, 0, 71, 1, 33, 16 + 3);
        due("24: sent with it", x.unit(2, 1, 4), 15);
    }

    private static void sentWithoutRoom() {
        BroadcastPlant x = plain();
        x.set(0, 1000, 1000, 1);
        x.buffer(0, 1000);
        x.total(0);
        x.tick(2);
        dueBytes("24: a clock without a payload", x, 12, 0, 71, 1, 1, 32 + 4, 183, 16, 0, 0, 7, 8, 126, 0, 255);
        due("24: to the end", x.sent(12, 187), 255);
        due("24: no more of it", x.sent(15, 1), 31);
        x.tick(7);
        due("24: the first goes, the second begins", x.unit(0, 0, 0), 3);
        dueBytes("24: with the clock, without a key", x, 8 * 12 + 4, 0, 71, 65, 1, 48 + 5, 7, 16);
        due("24: and so on", x.stored(0), 912);
        x = new BroadcastPlant(12, 0);
        x.service(0, false);
        x.total(0);
        x.set(1, 16, 16, 1);
        x.set(2, 1000, 1000, 1);
        x.buffer(2, 1000);
        x.tick(1);
        dueBytes("24: channels in service alone", x, 3, 0, 71, 65, 17, 48);
    }

    private static void stored() {
        BroadcastPlant x = new BroadcastPlant(12, 0);
        int[] bad = {-1, 3, LOW, HIGH};
        for (int b : bad) due("25: " + b, x.stored(b), BAD);
        x.tick(1);
        int[] bytes = {681, 176 + 2 * 184, 176};
        for (int c = 0; c < 3; c++) due("25: channel " + c, x.stored(c), bytes[c]);
        x = small();
        x.tick(8);
        due("25: eight frames", x.stored(0), 8 * 114);
        x.tick(3);
        due("25: no more than eight", x.stored(0), 8 * 114);
        x.service(0, false);
        due("25: told, but not yet", x.stored(0), 8 * 114);
        x.tick(2);
        due("25: it left", x.stored(0), 0);
        x.service(0, true);
        x.tick(4);
        due("25: back, with new ones alone", x.stored(0), 114);
        due("25: of others", x.stored(1), 8 * 114);
    }

    // ---- 26 .. 28

    private static void shown() {
        BroadcastPlant x = small();
        x.lines(1, 1);
        x.event(0, FOLLOW, 0, 0, 6);
        x.tick(7);
        due("26: not over", x.shown(0, 0, 0), BAD);
        for (int n = 12; n < 36; n++) loseForGood(x, n + 84);
        x.tick(1);
        due("26: over", x.shown(0, 0, 0), 1);
        due("26: not over", x.shown(0, 1, 0), BAD);
        x.tick(12);
        int[][] bad = {{-1, 0, 0}, {3, 0, 0}, {0, -1, 0}, {0, 13, 0}, {0, 0, -1}, {0, 0, 3}, {LOW, 0, 0}, {0, HIGH, 0}, {0, 0, HIGH}};
        for (int[] b : bad) due("26: " + Arrays.toString(b), x.shown(b[0], b[1], b[2]), BAD);
        int[][] rows = {{1, 0, 0}, {1, 0, 5}, {1, NONE, NONE}, {1, NONE, NONE}, {0, NONE, NONE}, {0, NONE, NONE}, {0, NONE, NONE}};
        int[] frames = {0, 5, 6, 7, 8, 9, 12};
        for (int i = 0; i < frames.length; i++) {
            for (int w = 0; w < 3; w++) due("26: frame " + frames[i] + ", " + w, x.shown(0, frames[i], w), rows[i][w]);
        }
        x = small();
        x.lines(1, 1);
        x.event(0, FOLLOW, 0, 0, 50);
        x.alter(4, 187, 1);
        x.alter(5, 187, 1);
        x.alter(36, 187, 1);
        x.tick(24);
        due("26: nothing in frame 0 is black", x.shown(0, 0, 1), NONE);
        due("26: none is decoded up to a key", x.shown(0, 11, 0), 0);
        due("26: a key", x.shown(0, 12, 0), 1);
        due("26: its frame", x.shown(0, 12, 2), 12);
        due("26: of channel 2 all", x.shown(2, 3, 0), 1);

        x = small();
        x.lines(1, 1);
        x.event(0, FOLLOW, 0, 0, 50);
        x.alter(36, 187, 1);
        x.tick(24);
        due("26: decoded", x.shown(0, 2, 2), 2);
        due("26: frozen", x.shown(0, 3, 0), 0);
        due("26: as before", x.shown(0, 5, 2), 2);
        due("26: its clip", x.shown(0, 5, 1), 0);

        x = new BroadcastPlant(12, 0);
        x.lines(8, 8);
        x.tick(10);
        due("26: a block of 64 has no packet 95", x.told(7), 0);
        x.tick(1);
        due("26: two blocks have 128: 95, 107 and 119", x.told(7), 3);
    }

    private static void shownOfAnySize() {
        BroadcastPlant x = new BroadcastPlant(40, 0);
        x.lines(1, 1);
        x.set(0, 1000, 3000, 100);
        x.set(1, 16, 16, 1);
        x.set(2, 16, 1000, 1);
        x.buffer(0, 20000);
        x.total(9000);
        x.tick(3);
        int[] sizes = {3000, 16, 1000};
        for (int c = 0; c < 3; c++) due("26: size", x.unit(c, 0, 1), sizes[c]);
        x.set(0, 16, 16, 1);
        x.tick(17);
        for (int c = 0; c < 3; c++) for (int f = 0; f < 12; f++) due("26: channel " + c + " frame " + f, x.shown(c, f, 0), 1);
        due("26: no faults", x.faults(0), 0);
    }

    private static void region() {
        BroadcastPlant x = small();
        x.event(0, BREAK, 0, 0, 20);
        x.event(0, FOLLOW, 0, 0, 5);
        x.event(0, BREAK, 0, 0, 13);
        x.event(0, BREAK, 0, 0, 4);
        x.event(0, FOLLOW, 0, 0, 50);
        x.local(4);
        x.local(6);
        x.lines(1, 1);
        x.tick(8);
        due("27: frame 0 is over", x.region(0, 0), 1);
        x.local(20);
        x.tick(42);
        int[][] bad = {{-1, 0}, {43, 0}, {0, -1}, {0, 2}, {LOW, 0}, {HIGH, 0}, {0, HIGH}};
        for (int[] b : bad) due("27: " + Arrays.toString(b), x.region(b[0], b[1]), BAD);
        int[] pieces = {1, 1, 2, 2}, firsts = {0, 4, 8, 14}, ends = {4, 8, 14, 20};
        for (int i = 0; i < 4; i++) {
            for (int f = firsts[i]; f < ends[i]; f++) {
                due("27: 20 is 4 + 4 + 6 + 6, frame " + f, x.region(f, 0), pieces[i]);
                due("27: its frame", x.region(f, 1), f - firsts[i]);
            }
        }
        for (int f = 20; f < 38; f++) {
            due("27: channel 0, frame " + f, x.region(f, 0), 0);
            due("27: no frame of a piece", x.region(f, 1), NONE);
        }
        due("27: 13 is not closed, 4 is", x.region(38, 0), 1);
        due("27: to its end", x.region(41, 1), 3);
        due("27: then channel 0", x.region(42, 0), 0);
    }

    private static void regionEnds() {
        BroadcastPlant x = small();
        x.lines(1, 1);
        x.local(10);
        x.event(0, BREAK, 0, 0, 20);
        x.event(0, FOLLOW, 0, 0, 5);
        x.event(0, BREAK, 0, 0, 20);
        x.event(0, BREAK, 0, 0, 10);
        x.tick(7);
        x.take(0);
        x.tick(10);
        x.take(0);
        x.tick(30);
        due("27: out", x.region(6, 0), 1);
        due("27: left is 0", x.region(7, 0), 0);
        due("27: the next break", x.region(12, 0), 1);
        due("27: cut by another break it goes on", x.region(17, 1), 5);
        due("27: first piece", x.region(21, 1), 9);
        due("27: to its own end", x.region(22, 1), 0);
        due("27: but for left 0", x.region(27, 0), 0);

        x = small();
        x.lines(1, 1);
        x.local(2);
        x.event(0, BREAK, 0, 0, 24);
        x.event(1, BREAK, 0, 0, 24);
        x.alter(4, 187, 1);
        x.tick(40);
        due("27: a key of 1 begins no break", x.region(12, 0), 0);
        x = small();
        x.lines(1, 1);
        x.event(0, BREAK, 0, 0, 1);
        x.event(0, BREAK, 0, 0, 1);
        x.tick(7);
        x.local(1);
        x.tick(7);
        due("27: a break of one frame, told in time", x.region(0, 0), 1);
        due("27: and the next", x.region(1, 0), 1);
        due("27: and no more", x.region(2, 0), 0);
        x = small();
        x.lines(1, 1);
        x.local(1);
        x.event(0, BREAK, 0, 0, 13);
        x.event(0, BREAK, 0, 0, 12);
        x.tick(40);
        due("27: 13 pieces are too many", x.region(0, 0), 0);
        due("27: 12 are not", x.region(13, 0), 1);
        due("27: 12 are not", x.region(24, 0), 1);
    }

    private static void alarm() {
        BroadcastPlant x = small();
        x.lines(1, 1);
        x.event(0, FOLLOW, 0, 0, 9);
        x.event(0, FIXED, 25, 0, 5);
        x.event(1, FIXED, 9, 0, 100);
        x.alter(36 + 2, 187, 1);
        x.tick(17);
        due("28: nine frames of black are none", x.told(10), 0);
        x.tick(8);
        due("28: none yet", x.alarm(0, 0, 0), BAD);
        x.tick(1);
        due("28: one", x.told(9), 1);
        int[] black = {0, 18, NONE}, end = {0, 18, 25};
        for (int w = 0; w < 3; w++) due("28: black, " + w, x.alarm(0, 0, w), black[w]);
        x.tick(21);
        for (int w = 0; w < 3; w++) due("28: black, ended, " + w, x.alarm(0, 0, w), end[w]);
        due("28: then another", x.alarm(0, 1, 1), 39);
        due("28: of channel 2 two", x.told(11), 2);
        int[] freeze = {1, 7, 12}, first = {0, 9, NONE};
        for (int w = 0; w < 3; w++) due("28: freeze, " + w, x.alarm(2, 0, w), freeze[w]);
        for (int w = 0; w < 3; w++) due("28: black, " + w, x.alarm(2, 1, w), first[w]);
        int[][] bad = {{-1, 0, 0}, {3, 0, 0}, {0, -1, 0}, {0, 2, 0}, {1, 0, 0}, {0, 0, -1}, {0, 0, 3}, {LOW, 0, 0}, {0, HIGH, 0}, {0, 0, HIGH}};
        for (int[] b : bad) due("28: " + Arrays.toString(b), x.alarm(b[0], b[1], b[2]), BAD);

        x = small();
        x.lines(1, 1);
        x.event(0, FOLLOW, 0, 0, 100);
        x.fill(0);
        x.alter((5 + 2) * 12, 187, 1);
        x.tick(24);
        due("28: freeze", x.alarm(0, 0, 1), 11);
        due("28: in frames 7 .. 11", x.alarm(0, 0, 2), 12);
        x = small();
        x.lines(1, 1);
        x.event(0, FOLLOW, 0, 0, 100);
        x.alter(8 * 12 + 4, 187, 1);
        x.tick(24);
        due("28: four frames of freeze are none", x.told(9), 0);

        x = small();
        x.lines(1, 1);
        x.event(0, FOLLOW, 0, 0, 3);
        x.alter(8 * 12 + 4, 187, 1);
        x.tick(12);
        x.service(0, false);
        x.tick(20);
        due("28: of one frame kind 0 is ahead", x.alarm(0, 0, 0), 0);
        due("28: frame 12", x.alarm(0, 0, 1), 12);
        due("28: kind 1", x.alarm(0, 1, 0), 1);
        due("28: frame 12", x.alarm(0, 1, 1), 12);
    }

    // ---- 29, 30

    /** Runs 8 frames with these alterations (packet, byte, mask); the faults 1 .. 8 are to be so many. */
    private static void dueAltered(String what, int[][] alterations, int... want) {
        BroadcastPlant x = prompt();
        for (int[] a : alterations) x.alter(a[0], a[1], a[2]);
        x.tick(8);
        dueFaults(what, x, want);
    }

    private static void faultsOfHeads() {
        BroadcastPlant x = small();
        int[] bad = {-1, 9, LOW, HIGH};
        for (int b : bad) due("29: " + b, x.faults(b), BAD);
        int n = 11;
        dueAltered("29: none", new int[][] {}, 0, 0, 0, 0, 0, 0, 0, 0);
        dueAltered("29: the first byte", new int[][] {{n, 0, 1}}, 1, 0, 0, 0, 0, 0, 0, 0);
        dueAltered("29: 128 in the second", new int[][] {{n, 1, 128}}, 1, 0, 0, 0, 0, 0, 0, 0);
        dueAltered("29: both, and nothing more", new int[][] {{n, 0, 1}, {n, 1, 128}, {n, 3, 16}}, 1, 0, 0, 0, 0, 0, 0, 0);
        dueAltered("29: neither payload nor field", new int[][] {{n, 3, 16}}, 0, 1, 0, 0, 0, 0, 0, 0);
        dueAltered("29: 192 is not looked at", new int[][] {{n, 3, 192}, {4, 3, 64}, {12, 3, 128}}, 0, 0, 0, 0, 0, 0, 0, 0);
        dueAltered("29: a field of 183 with a payload", new int[][] {{n, 3, 32}, {n, 4, 255 ^ 183}}, 0, 1, 0, 0, 0, 0, 0, 0);
        dueAltered("29: a field of 182 with a payload", new int[][] {{n, 3, 32}, {n, 4, 255 ^ 182}}, 0, 0, 0, 0, 0, 0, 0, 0);
        dueAltered("29: a field of 184", new int[][] {{n, 3, 48}, {n, 4, 255 ^ 184}}, 0, 1, 0, 0, 0, 0, 0, 0);
        dueAltered("29: a field of 183", new int[][] {{n, 3, 48}, {n, 4, 255 ^ 183}}, 0, 0, 0, 0, 0, 0, 0, 0);
        dueAltered("29: no place for a clock", new int[][] {{n, 3, 32}, {n, 4, 255 ^ 6}}, 0, 1, 0, 0, 0, 0, 0, 0);
        dueAltered("29: place for a clock", new int[][] {{n, 3, 32}, {n, 4, 255 ^ 7}}, 0, 0, 0, 0, 0, 0, 0, 0);
        dueAltered("29: no clock", new int[][] {{n, 3, 32}, {n, 4, 255 ^ 6}, {n, 5, 16}}, 0, 0, 0, 0, 0, 0, 0, 0);
        dueAltered("29: no flags", new int[][] {{n, 3, 32}, {n, 4, 255}}, 0, 0, 0, 0, 0, 0, 0, 0);
    }

    private static void faultsOfCounters() {
        dueAltered("29: a counter, and the next", new int[][] {{24, 3, 1}}, 0, 0, 2, 0, 0, 0, 0, 0);
        dueAltered("29: the first one's, and the next", new int[][] {{4, 3, 2}}, 0, 0, 1, 0, 0, 0, 0, 0);
        dueAltered("29: of the list", new int[][] {{0, 3, 2}}, 0, 0, 1, 0, 0, 0, 0, 0);
        dueAltered("29: of a table", new int[][] {{50, 3, 2}}, 0, 0, 1, 0, 0, 0, 0, 0);
        dueAltered("29: of no one", new int[][] {{11, 3, 2}}, 0, 0, 0, 0, 0, 0, 0, 0);
        dueAltered("29: one more, without a payload", new int[][] {{24, 3, 16}}, 0, 0, 1, 0, 0, 0, 0, 0);
        dueAltered("29: the same, without a payload", new int[][] {{24, 3, 16 ^ 2 ^ 1}}, 0, 0, 1, 0, 0, 0, 0, 0);
        BroadcastPlant x = plain();
        x.lines(1, 1);
        x.set(0, 1000, 1000, 1);
        x.total(0);
        loseForGood(x, 8);
        x.tick(8);
        due("29: what is lost is missed once", x.faults(3), 1);
        due("29: what was collected is gone", x.faults(0), 1);
        due("29: its packet", x.told(5), 9);
        due("29: lost", x.told(3), 1);
        due("29: not mended", x.told(4), 0);
    }

    private static void faultsOfClocks() {
        dueAltered("29: a clock's base", new int[][] {{4, 6, 128}}, 0, 0, 0, 1, 0, 0, 0, 0);
        dueAltered("29: a clock's rest", new int[][] {{4, 11, 1}}, 0, 0, 0, 1, 0, 0, 0, 0);
        dueAltered("29: a bit of 1", new int[][] {{4, 10, 64}}, 0, 0, 0, 1, 0, 0, 0, 0);
        dueAltered("29: no clock in three frames", new int[][] {{24, 5, 16}, {36, 5, 16}}, 0, 0, 0, 0, 1, 0, 0, 0);
        dueAltered("29: just three frames", new int[][] {{36, 5, 16}, {52, 5, 16}}, 0, 0, 0, 0, 0, 0, 0, 0);
        dueAltered("29: a wrong one is one", new int[][] {{24, 5, 16}, {36, 6, 1}}, 0, 0, 0, 1, 0, 0, 0, 0);
        BroadcastPlant x = small();
        x.lines(1, 1);
        x.service(0, false);
        x.tick(4);
        x.service(0, true);
        x.tick(20);
        due("29: what is known no more is not missed", x.faults(0), 0);
    }

    private static void faultsOfTables() {
        dueAltered("29: a list's byte", new int[][] {{0, 9, 1}}, 0, 0, 0, 0, 0, 1, 0, 0);
        dueAltered("29: its check", new int[][] {{48, 28, 1}}, 0, 0, 0, 0, 0, 1, 0, 0);
        dueAltered("29: without 64", new int[][] {{48, 1, 64}}, 0, 0, 0, 0, 0, 1, 0, 0);
        dueAltered("29: the byte 0", new int[][] {{48, 4, 1}}, 0, 0, 0, 0, 0, 1, 0, 0);
        dueAltered("29: a table's kind", new int[][] {{49, 5, 2}}, 0, 0, 0, 0, 0, 1, 0, 0);
        dueAltered("29: a table's length", new int[][] {{49, 7, 255 ^ 18}}, 0, 0, 0, 0, 0, 1, 0, 0);
        dueAltered("29: behind its end nothing counts", new int[][] {{48, 29, 255}, {49, 26, 255}}, 0, 0, 0, 0, 0, 0, 0, 0);
        dueAltered("29: a payload of 3 bytes", new int[][] {{48, 3, 32}, {48, 4, 180}, {48, 5, 0 ^ 1}}, 0, 0, 0, 0, 0, 1, 0, 0);
        BroadcastPlant x = small();
        x.lines(1, 1);
        x.alter(0, 9, 1);
        x.tick(12);
        due("29: nothing is known up to the next list", x.shown(0, 3, 0), 0);
        due("29: then a key is needed", x.shown(0, 4, 0), 0);
        x = small();
        x.lines(1, 1);
        x.event(0, FIXED, 5, 0, 10);
        x.alter(0, 9, 1);
        x.tick(14);
        due("29: here it is", x.shown(0, 5, 0), 1);

        x = small();
        x.lines(1, 1);
        x.service(1, false);
        x.tick(4);
        x.service(1, true);
        x.service(0, false);
        x.tick(20);
        due("29: tables that change are no faults", x.faults(0), 0);
        due("29: shown again", x.shown(1, 4, 0), 1);
        due("29: shown no more", x.shown(0, 4, 0), 0);
    }

    private static void faultsOfUnits() {
        dueAltered("29: a byte of a unit", new int[][] {{24, 187, 1}}, 0, 0, 0, 0, 0, 0, 0, 1);
        int at = 188 - 114;
        int[] header = {0, 1, 2, 3, 6, 7, 8};
        for (int i : header) dueAltered("29: byte " + i, new int[][] {{24, at + i, 1}}, 0, 0, 0, 0, 0, 0, 0, 1);
        dueAltered("29: fewer bytes", new int[][] {{24, at + 5, 1}}, 0, 0, 0, 0, 0, 0, 1, 0);
        dueAltered("29: more bytes", new int[][] {{24, at + 5, 4}}, 0, 0, 0, 0, 0, 0, 0, 1);
        dueAltered("29: a byte more than told", new int[][] {{24, at + 5, 108 ^ 107}}, 0, 0, 0, 0, 0, 0, 0, 1);
        dueAltered("29: a byte fewer than told", new int[][] {{24, at + 5, 108 ^ 109}}, 0, 0, 0, 0, 0, 0, 1, 0);
        dueAltered("29: below 24", new int[][] {{24, at + 5, 108 ^ 23}}, 0, 0, 0, 0, 0, 0, 0, 1);
        dueAltered("29: above 3008", new int[][] {{24, at + 4, 12}}, 0, 0, 0, 0, 0, 0, 0, 1);
        dueAltered("29: bits of 241", new int[][] {{24, at + 9, 128}}, 0, 0, 0, 0, 0, 0, 0, 1);
        dueAltered("29: the third is even", new int[][] {{24, at + 11, 1}}, 0, 0, 0, 0, 0, 0, 0, 1);
        dueAltered("29: the fifth is even", new int[][] {{24, at + 13, 1}}, 0, 0, 0, 0, 0, 0, 0, 1);
        dueAltered("29: another stamp", new int[][] {{24, at + 13, 2}}, 0, 0, 0, 0, 0, 0, 0, 1);
        dueAltered("29: without a beginning nothing is collected", new int[][] {{24, 1, 64}}, 0, 0, 0, 0, 0, 0, 0, 0);
        BroadcastPlant x = plain();
        x.lines(1, 1);
        x.set(0, 1000, 1000, 1);
        x.buffer(0, 1000);
        x.total(0);
        x.tick(9);
        due("29: a late one is not whole", x.faults(7), 1);
        due("29: when the next begins", x.told(5), 8 * 12 + 4);
        due("29: its number", x.told(6), 7);
        due("29: all", x.faults(0), 1);
    }

    private static void told() {
        BroadcastPlant x = small();
        int[] bad = {-1, 12, LOW, HIGH};
        for (int b : bad) due("30: " + b, x.told(b), BAD);
        x.lines(3, 2);
        x.lose(0, 5);
        x.lose(0, 8);
        x.lose(1, 1);
        x.lose(5, 1);
        x.alter(27, 0, 1);
        x.alter(28, 3, 16);
        x.service(2, false);
        x.tick(21);
        int[] told = {21, 252, 42, 2, 1, 27, 1, 14, 1, 1, 1, 2};
        for (int i = 0; i < told.length; i++) due("30: " + i, x.told(i), told[i]);
        due("30: all faults", x.faults(0), 2);
        due("30: of 1", x.faults(1), 1);
        due("30: of 2", x.faults(2), 1);
    }

    /** The example of README.md. */
    private static void readme() {
        BroadcastPlant plant = new BroadcastPlant(20, 0);
        due("README: clip", plant.clip(50, 10), 0);
        due("README: event", plant.event(0, FOLLOW, 0, 0, 30), 0);
        due("README: lose", plant.lose(0, 33), 1);
        due("README: tick", plant.tick(40), 40);
        due("README: the event has ended", plant.eventOf(0, 0, 0), 2);
        due("README: frames over", plant.told(7), 33);
        due("README: the clip that is shown", plant.shown(0, 3, 1), 0);
        due("README: mended", plant.told(4), 1);
        due("README: faults", plant.faults(0), 0);
    }
}
