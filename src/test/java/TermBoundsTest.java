/** The bounds that the document's terms 1 to 5 name, each with the last case within it and the first one beyond. */
public final class TermBoundsTest extends Answers {
    public static void main(String[] args) {
        stampsGoOver();
        clocksGoOver();
        timeAtTheEnd();
        closingOfOneToTwelve();
        closingByTheFewest();
        fixedAtItsFrame();
        takeOrEnd();
        framesOfAnEvent();
        piecesOfFill();
        longestFill();
        fillUpToAFixedOne();
        failing();
        rowsOfAsRun();
        serviceAtMultiplesOf4();
        versionGoesOver();
        lateAtTheEighthFrame();
        droppedOrLate();
        keys();
        shares();
        leftOfABreak();
        countersGoOver();
        fieldsBesideAClock();
        fieldsWithoutAClock();
        fieldsWithAKey();
        keyFlags();
        room();
        roomOfEightFrames();
        orderOfChannels();
        listsOfChannels();
        clocksWithoutAPayload();
        largestUnits();
        lastUnit();
        finish();
    }

    private static int[] sourceOf(BroadcastPlant x, int channel, int frame) {
        return new int[] {x.source(channel, frame, 0), x.source(channel, frame, 1), x.source(channel, frame, 3)};
    }

    // ---- 1 TIME

    /** A unit of 100 bytes has its stamp 9 bytes behind its beginning, 114 bytes ahead of the packet's end. */
    private static final int STAMP = 188 - 114 + 9;

    private static void stampsGoOver() {
        BroadcastPlant x = new BroadcastPlant(12, -14401);
        x.total(0);
        x.tick(2);
        dueBytes("1: stamp 2^33 - 2", x, 4, STAMP, 47, 255, 255, 255, 253);
        dueBytes("1: the next is 3598", x, 12, STAMP, 33, 0, 1, 28, 29);
        x = new BroadcastPlant(12, -14400);
        x.total(0);
        x.tick(2);
        dueBytes("1: stamp 2^33 is 0", x, 4, STAMP, 33, 0, 1, 0, 1);
        dueBytes("1: the next is 3600", x, 12, STAMP, 33, 0, 1, 28, 33);
        for (int begin : new int[] {-14401, -14400, -14399, -1, 0}) {
            x = new BroadcastPlant(12, begin);
            x.total(0);
            x.lines(1, 1);
            x.tick(20);
            dueFaults("1: begin " + begin, x, 0, 0, 0, 0, 0, 0, 0, 0);
            for (int f = 0; f < 13; f++) due("1: begin " + begin + ", frame " + f, x.shown(0, f, 0), 1);
        }
    }

    private static void clocksGoOver() {
        BroadcastPlant x = new BroadcastPlant(12, -1800);
        x.tick(2);
        dueBytes("1: 3600 less 1800 are left", x, 6, 6, clock(8589932792L, 0));
        dueBytes("1: clock 300 times 2^33 is 0", x, 12, 6, clock(0, 0));
        dueBytes("1: bytes of that", x, 12, 6, 0, 0, 0, 0, 126, 0);
        x = new BroadcastPlant(19, -379);
        x.tick(1);
        dueBytes("1: base 2^33 - 1", x, 4, 6, clock(8589934591L, 268));
        dueBytes("1: bytes of that", x, 4, 6, 255, 255, 255, 255, 255, 12);
        x = new BroadcastPlant(19, -378);
        x.tick(1);
        dueBytes("1: base 1, and the rest is cut off", x, 4, 6, clock(1, 268));
        for (int begin : new int[] {-1801, -1800, -379, -378, -1}) {
            x = new BroadcastPlant(19, begin);
            x.lines(1, 1);
            x.tick(12);
            due("1: clocks are right, begin " + begin, x.faults(0), 0);
        }
    }

    private static void timeAtTheEnd() {
        BroadcastPlant x = new BroadcastPlant(40, 0);
        x.total(0);
        x.lines(1, 1);
        run(x, 3000);
        dueBytes("1: clock of packet 119960", x, 119960, 6, clock(10796400, 0));
        dueBytes("1: stamp of 3007 is 10825200", x, 119960, STAMP, 33, 2, 149, 91, 225);
        due("1: all packets came", x.told(2), 120000);
        due("1: and are right", x.faults(0), 0);
        due("1: frames are over", x.told(7), 2993);
    }

    // ---- 2 CLOSING

    /** The first fill that is given ahead of a fixed event in so many frames; NONE is BLACK. */
    private static int firstFill(int frames, int... lengths) {
        BroadcastPlant x = new BroadcastPlant(12, 0);
        for (int i = 0; i < lengths.length; i++) {
            x.clip(lengths[i], 1);
            x.fill(i);
        }
        x.event(0, FIXED, frames, 0, 1);
        x.tick(1);
        return x.source(0, 0, 1);
    }

    private static void closingOfOneToTwelve() {
        due("2: a row of 1", firstFill(5, 1, 5), 1);
        due("2: a row of 2", firstFill(6, 1, 5), 0);
        due("2: 10 times 5 and 2 times 1 is a row of 12", firstFill(52, 1, 5), 0);
        due("2: 53 would be one of 13: the longest", firstFill(53, 1, 5), 1);
        due("2: 54", firstFill(54, 1, 5), 1);
        due("2: 55 is a row of 11", firstFill(55, 1, 5), 1);
        due("2: 56 is one of 12", firstFill(56, 1, 5), 0);
        due("2: 57 is none", firstFill(57, 1, 5), 1);
        due("2: 60 is one of 12", firstFill(60, 5, 1), 0);
        due("2: the largest hole is none", firstFill(2999, 1, 249), 1);
        due("2: 2988 is one of 12", firstFill(2988, 250, 249), 1);
        due("2: 2989 is one of 12", firstFill(2989, 250, 249), 0);
        due("2: 2987 is none: the longest", firstFill(2987, 249, 250), 1);
        due("2: six lengths", firstFill(6, 7, 7, 7, 7, 7, 6), 5);
    }

    private static void closingByTheFewest() {
        due("2: one of 6 is fewer than three of 2 or two of 3", firstFill(6, 2, 3, 6), 2);
        due("2: of 4 + 6 and 6 + 4 the first", firstFill(10, 4, 6), 0);
        due("2: of 6 + 4 and 4 + 6 the first", firstFill(10, 6, 4), 0);
        due("2: of like ones the first", firstFill(5, 5, 5), 0);
        due("2: of 9 = 7 + 2 = 5 + 4 the first", firstFill(9, 1, 5, 7, 2, 4), 1);
        BroadcastPlant x = new BroadcastPlant(12, 0);
        int[] lengths = {1, 5, 7, 2, 4};
        for (int i = 0; i < 5; i++) {
            x.clip(lengths[i], 1);
            x.fill(i);
        }
        x.event(0, FIXED, 9, 0, 1);
        x.tick(9);
        dueRow("2: 5 to its end", sourceOf(x, 0, 4), 2, 1, 4);
        dueRow("2: then 4", sourceOf(x, 0, 5), 2, 4, 0);
        dueRow("2: to its end", sourceOf(x, 0, 8), 2, 4, 3);
    }

    // ---- 3 PLAYOUT

    private static int[] states(BroadcastPlant x, int events) {
        int[] states = new int[events];
        for (int e = 0; e < events; e++) states[e] = x.eventOf(0, e, 0);
        return states;
    }

    private static void fixedAtItsFrame() {
        BroadcastPlant x = plain();
        x.event(0, MANUAL, 0, 0, 9);
        x.event(0, FOLLOW, 0, 0, 9);
        x.event(0, FIXED, 3, 0, 9);
        x.event(0, FOLLOW, 0, 0, 9);
        x.event(0, FIXED, 4, 0, 9);
        x.event(0, MANUAL, 0, 0, 9);
        x.tick(3);
        dueRow("3: frame 2", states(x, 6), 0, 0, 0, 0, 0, 0);
        x.tick(1);
        dueRow("3: frame 3: all ahead are skipped, from the first on", states(x, 6), 4, 4, 1, 0, 0, 0);
        x.tick(1);
        dueRow("3: frame 4: cut at once", states(x, 6), 4, 4, 3, 4, 1, 0);
        due("3: had one", x.eventOf(0, 2, 1), 1);
        x = plain();
        x.event(0, FOLLOW, 0, 0, 3);
        x.event(0, FOLLOW, 0, 0, 3);
        x.event(0, FIXED, 3, 0, 3);
        x.tick(4);
        dueRow("3: what has its length is cut, too", states(x, 3), 3, 4, 1);
        x = plain();
        x.event(0, FIXED, 3, 0, 3);
        x.skip(0, 0);
        x.tick(4);
        due("3: a skipped one is not on", x.source(0, 3, 0), 0);
    }

    private static void takeOrEnd() {
        BroadcastPlant x = plain();
        x.event(0, FOLLOW, 0, 0, 3);
        x.event(0, MANUAL, 0, 0, 3);
        x.event(0, BREAK, 0, 0, 1);
        x.event(0, FOLLOW, 0, 0, 1);
        x.tick(3);
        x.take(0);
        x.tick(1);
        dueRow("3: at its end a take cuts", states(x, 4), 3, 1, 0, 0);
        x.tick(3);
        dueRow("3: ended, and a break follows", states(x, 4), 3, 2, 1, 0);
        x.tick(1);
        dueRow("3: a follower follows", states(x, 4), 3, 2, 2, 1);
        x.take(0);
        x.tick(1);
        dueRow("3: a take with none planned", states(x, 4), 3, 2, 2, 3);
        x = plain();
        x.event(0, FOLLOW, 0, 0, 1);
        x.event(0, FIXED, 9, 0, 1);
        x.event(0, FOLLOW, 0, 0, 1);
        x.tick(9);
        dueRow("3: the first planned one is fixed, and what is behind it waits", states(x, 3), 2, 0, 0);
        x.tick(2);
        dueRow("3: up to its end", states(x, 3), 2, 2, 1);
        x = plain();
        x.event(0, FOLLOW, 0, 0, 2);
        x.hold(0, true);
        x.tick(9);
        x.take(0);
        x.tick(1);
        dueRow("3: a take cuts what is held", states(x, 1), 3);
    }

    private static void framesOfAnEvent() {
        BroadcastPlant x = new BroadcastPlant(12, 0);
        x.clip(100, 1);
        x.clip(3, 1);
        x.event(0, FOLLOW, 0, 0, 3);
        x.event(1, FOLLOW, 0, 1, 5);
        x.event(2, FOLLOW, 0, 1, 3);
        for (int c = 0; c < 3; c++) x.hold(c, true);
        x.tick(5);
        x.overrun(0, 4);
        x.tick(4);
        int[][] frames = {{0, 1, 2, 2, 2, 5, 6, 6, 6}, {0, 1, 2, 0, 1, 1, 1, 1, 1}, {0, 1, 2, 2, 2, 2, 2, 2, 2}};
        for (int c = 0; c < 3; c++) {
            for (int f = 0; f < 9; f++) due("3: channel " + c + ", frame " + f, x.source(c, f, 3), frames[c][f]);
        }
        x.hold(0, false);
        x.tick(1);
        due("3: had 9 of 7", x.eventOf(0, 0, 0), 2);
        due("3: no hold, and more than its length", x.eventOf(0, 0, 1), 9);
    }

    private static void piecesOfFill() {
        BroadcastPlant x = new BroadcastPlant(12, 0);
        x.clip(1, 1);
        x.clip(3, 1);
        x.tick(1);
        dueRow("3: without a fill", sourceOf(x, 0, 0), 0, NONE, NONE);
        x.fill(1);
        x.fill(0);
        x.tick(4);
        for (int f = 1; f < 5; f++) dueRow("3: the first one, frame " + f, sourceOf(x, 0, f), 2, 0, (f - 1) % 3);
        x.event(0, FIXED, 6, 0, 1);
        x.tick(3);
        dueRow("3: a piece goes on", sourceOf(x, 0, 5), 2, 0, 1);
        dueRow("3: and is gone", sourceOf(x, 0, 6), 1, 0, 0);
        dueRow("3: another begins", sourceOf(x, 0, 7), 2, 0, 0);
        x.event(0, FIXED, 11, 0, 1);
        x.event(0, FIXED, 13, 0, 1);
        x.tick(6);
        dueRow("3: to its end", sourceOf(x, 0, 9), 2, 0, 2);
        dueRow("3: then one frame is left", sourceOf(x, 0, 10), 2, 1, 0);
        dueRow("3: the fixed one", sourceOf(x, 0, 11), 1, 1, 0);
        dueRow("3: one frame is left", sourceOf(x, 0, 12), 2, 1, 0);
        dueRow("3: the fixed one", sourceOf(x, 0, 13), 1, 2, 0);
    }

    private static void longestFill() {
        due("3: 5 is not closed by 4 and 3: the longest", firstFill(5, 4, 3), 0);
        due("3: the other way", firstFill(5, 3, 4), 1);
        due("3: 6 is longer than 5", firstFill(5, 6, 2), 1);
        due("3: of like ones the first", firstFill(3, 7, 2, 2), 1);
        due("3: of like ones the first of all", firstFill(3, 2, 2, 2), 0);
        due("3: one frame more than the hole", firstFill(4, 5), NONE);
        due("3: as long as the hole", firstFill(5, 5), 0);
        due("3: one frame less", firstFill(6, 5), 0);
        due("3: one frame is left", firstFill(1, 2, 3, 4), NONE);
        due("3: one frame is closed", firstFill(1, 2, 1), 1);
    }

    /** Which fixed event ends the hole, as fills of 3 and 2 tell: without one it is the first fill, 3 frames long. */
    private static void fillUpToAFixedOne() {
        BroadcastPlant x = new BroadcastPlant(12, 0);
        x.clip(3, 1);
        x.clip(2, 1);
        x.fill(0);
        x.fill(1);
        for (int c = 0; c < 3; c++) {
            x.event(c, FIXED, 2, 0, 1);
            x.event(c, FIXED, 3, 0, 1);
        }
        x.skip(1, 0);
        x.skip(2, 0);
        x.skip(2, 1);
        x.tick(1);
        dueRow("3: the first that is planned", sourceOf(x, 0, 0), 2, 1, 0);
        dueRow("3: not one that is skipped", sourceOf(x, 1, 0), 2, 0, 0);
        dueRow("3: none is planned", sourceOf(x, 2, 0), 2, 0, 0);
        x = new BroadcastPlant(12, 0);
        x.clip(3, 1);
        x.clip(2, 1);
        x.fill(0);
        x.fill(1);
        x.event(0, FOLLOW, 0, 0, 1);
        x.event(0, MANUAL, 0, 0, 1);
        x.event(0, FIXED, 3, 0, 1);
        x.event(1, MANUAL, 0, 0, 1);
        x.tick(2);
        dueRow("3: the manual one ahead of it does not count", sourceOf(x, 0, 1), 2, 1, 0);
        dueRow("3: with a manual one alone the first fill", sourceOf(x, 1, 1), 2, 0, 1);
    }

    private static void failing() {
        BroadcastPlant x = plain();
        x.fail(0, 0, 1);
        x.tick(2);
        due("3: black fails, too", x.source(0, 0, 4), 0);
        due("3: and the other player is in use", x.source(0, 1, 4), 1);
        x = new BroadcastPlant(12, 0);
        x.clip(2, 1);
        x.fill(0);
        x.fail(0, 0, 2);
        x.tick(2);
        x.fail(0, 1, 1);
        x.tick(2);
        int[] what = {0, 2, 0, 2}, frame = {NONE, 1, NONE, 1}, player = {0, 1, 1, 0};
        for (int f = 0; f < 4; f++) {
            due("3: a piece counts on, frame " + f, x.source(0, f, 3), frame[f]);
            due("3: what, frame " + f, x.source(0, f, 0), what[f]);
            due("3: player, frame " + f, x.source(0, f, 4), player[f]);
        }
        due("3: each begins a row", x.rows(0), 4);
    }

    private static void dueRows(String what, BroadcastPlant x, int... firsts) {
        int[] got = new int[x.rows(0)];
        for (int k = 0; k < got.length; k++) got[k] = x.row(0, k, 0);
        dueRow("3: rows: " + what, got, firsts);
        for (int k = 0; k < got.length; k++) {
            due("3: frames of row " + k, x.row(0, k, 1), (k + 1 < got.length ? got[k + 1] : x.told(0)) - got[k]);
        }
    }

    private static void rowsOfAsRun() {
        BroadcastPlant x = plain();
        x.tick(1);
        dueRows("the first of all, though black", x, 0);
        x.tick(5);
        dueRows("black behind black", x, 0);
        x.event(0, FOLLOW, 0, 0, 2);
        x.event(0, FOLLOW, 0, 0, 2);
        x.tick(6);
        dueRows("event, event, black", x, 0, 6, 8, 10);
        x.event(0, FOLLOW, 0, 0, 3);
        x.fail(0, 0, 1);
        x.tick(3);
        dueRows("the first of an event is black and no row", x, 0, 6, 8, 10, 13);
        x = plain();
        x.event(0, FOLLOW, 0, 0, 2);
        x.event(0, FOLLOW, 0, 0, 2);
        x.tick(1);
        x.fail(0, 0, 2);
        x.tick(1);
        x.fail(0, 1, 1);
        x.tick(3);
        dueRows("black from one event into the next", x, 0, 1, 3, 4);
    }

    // ---- 4 UNITS

    private static void serviceAtMultiplesOf4() {
        for (int told = 0; told <= 9; told++) {
            BroadcastPlant x = small();
            run(x, told).service(1, false);
            run(x, 13 - told);
            int from = (told + 3) / 4 * 4;
            for (int f = 0; f < 13; f++) due("4: told at " + told + ", frame " + f, x.unit(1, f, 0), f < from ? 2 : 0);
            due("4: version", x.told(8), 1);
        }
        BroadcastPlant x = small();
        for (int c = 0; c < 3; c++) x.service(c, false);
        x.tick(1);
        due("4: one more for all together", x.told(8), 1);
        x.service(0, true);
        x.tick(4);
        x.service(0, false);
        x.service(1, true);
        x.tick(4);
        due("4: one leaves as one comes", x.told(8), 3);
    }

    private static void versionGoesOver() {
        BroadcastPlant x = small();
        x.tick(1);
        for (int i = 1; i <= 33; i++) {
            x.service(0, i % 2 == 0);
            x.tick(4);
            due("4: version", x.told(8), i % 32);
            if (i >= 30) dueBytes("4: in the list", x, 48 * i, 10, 193 + 2 * (i % 32));
        }
    }

    /** Of 1014 bytes 912 are sent in frame 0, and there is room for the others when that is told. */
    private static BroadcastPlant waiting(int frames) {
        BroadcastPlant x = small();
        x.set(0, 1000, 1000, 1);
        x.buffer(0, 1000);
        return run(x, frames);
    }

    private static void lateAtTheEighthFrame() {
        BroadcastPlant x = waiting(7);
        x.buffer(0, 1014);
        x.tick(1);
        due("4: sent in the seventh frame behind it", x.unit(0, 0, 0), 2);
        due("4: its packet", x.unit(0, 0, 4), 84);
        x.tick(1);
        due("4: and never late", x.unit(0, 0, 0), 2);
        x = waiting(8);
        due("4: not sent, not late", x.unit(0, 0, 0), 1);
        x.buffer(0, 1014);
        x.tick(1);
        due("4: late in the eighth", x.unit(0, 0, 0), 3);
        due("4: no packet", x.unit(0, 0, 4), NONE);
        due("4: the next is not", x.unit(0, 1, 0), 2);
        x = new BroadcastPlant(12, 0);
        x.service(1, false);
        x.service(2, false);
        x.set(0, 1000, 3000, 1);
        x.total(3000);
        x.buffer(0, 20000);
        x.tick(1);
        due("4: 176 and 9 times 184 are sent, 1182 are left", x.stored(0), 1832);
        x.tick(7);
        due("4: frame 7, its last packet", x.unit(0, 0, 0), 2);
    }

    private static void droppedOrLate() {
        BroadcastPlant x = waiting(8);
        x.service(0, false);
        x.tick(1);
        due("4: what would be late in 8 is dropped", x.unit(0, 0, 0), 4);
        for (int f = 1; f < 8; f++) due("4: and the others", x.unit(0, f, 0), 4);
        due("4: nothing is stored", x.stored(0), 0);
        x = waiting(9);
        x.service(0, false);
        x.tick(4);
        for (int f = 0; f <= 3; f++) due("4: late ones stay late", x.unit(0, f, 0), 3);
        for (int f = 4; f < 12; f++) due("4: those of 4 .. 11 are dropped", x.unit(0, f, 0), 4);
        due("4: none of 12", x.unit(0, 12, 0), 0);
        x.service(0, true);
        x.buffer(0, 1014);
        x.tick(4);
        due("4: back, what was sent before counts no more", x.stored(0), 1014);
        due("4: dropped ones stay so", x.unit(0, 11, 0), 4);
        x = small();
        x.tick(3);
        x.service(1, false);
        x.tick(2);
        for (int f = 0; f < 4; f++) due("4: sent ones stay so", x.unit(1, f, 0), 2);
        due("4: but count no more", x.stored(1), 0);
    }

    private static void keys() {
        BroadcastPlant x = run(plain(), 38);
        for (int f = 0; f < 38; f++) due("4: key of " + f, x.unit(0, f, 2), f == 0 ? 2 : f % 12 == 0 ? 1 : 0);
        x = plain();
        x.event(0, FIXED, 5, 0, 13);
        x.tick(20);
        for (int f = 0; f < 20; f++) {
            due("4: rows at 0, 5, 18; key of " + f, x.unit(0, f, 2), f == 0 || f == 5 || f == 18 ? 2 : f == 17 ? 1 : 0);
        }
        x = plain();
        x.service(0, false);
        x.tick(1);
        x.service(0, true);
        x.event(1, FIXED, 4, 0, 5);
        x.service(1, false);
        x.tick(4);
        due("4: none was made of 3", x.unit(0, 4, 2), 1);
        x.service(1, true);
        x.tick(1);
        due("4: one was made of 4", x.unit(0, 5, 2), 0);
        x.event(1, FIXED, 8, 0, 5);
        x.tick(3);
        due("4: none was made of 7, and a row begins", x.unit(1, 8, 2), 2);
    }

    private static int[] sizes(BroadcastPlant x, int frame) {
        return new int[] {x.unit(0, frame, 1), x.unit(1, frame, 1), x.unit(2, frame, 1)};
    }

    private static void shares() {
        BroadcastPlant x = new BroadcastPlant(40, 0);
        x.clip(10, 100);
        x.event(0, FOLLOW, 0, 0, 10);
        x.set(0, 16, 3000, 100);
        x.set(1, 16, 3000, 1);
        x.set(2, 16, 3000, 1);
        x.total(3031);
        x.tick(1);
        dueRow("4: values 30000, 3, 3", sizes(x, 0), 2999, 16, 16);
        x.total(3032);
        x.tick(1);
        dueRow("4: values 10000, 1, 1; the greatest", sizes(x, 1), 3000, 16, 16);
        x.total(3033);
        x.tick(1);
        dueRow("4: then the others, the lowest first", sizes(x, 2), 3000, 17, 16);
        x.total(3034);
        x.tick(1);
        dueRow("4: then the next", sizes(x, 3), 3000, 17, 17);
        x.total(48);
        x.tick(1);
        dueRow("4: not below the sum", sizes(x, 4), 16, 16, 16);
        x.total(49);
        x.tick(1);
        dueRow("4: one byte", sizes(x, 5), 17, 16, 16);
        x.service(0, false);
        x.tick(3);
        dueRow("4: of those in service", sizes(x, 8), 0, 25, 24);
        x.service(1, false);
        x.service(2, false);
        x.tick(4);
        dueRow("4: of none", sizes(x, 12), 0, 0, 0);
    }

    private static void leftOfABreak() {
        BroadcastPlant x = plain();
        for (int kind = 0; kind < 3; kind++) x.event(kind, kind, 0, 0, 3);
        x.take(2);
        x.tick(1);
        for (int c = 0; c < 3; c++) due("4: no break, kind " + c, x.unit(c, 0, 3), 0);
        x = prompt();
        x.event(0, BREAK, 0, 0, 1000);
        x.event(1, BREAK, 0, 0, 1);
        x.event(2, BREAK, 0, 0, 2);
        x.hold(1, true);
        x.tick(1);
        x.overrun(0, 1000);
        x.tick(3);
        int[][] left = {{1000, 1999, 1998, 1997}, {1, 0, 0, 0}, {2, 1, 0, 0}};
        for (int c = 0; c < 3; c++) for (int f = 0; f < 4; f++) due("4: left of " + c + ", " + f, x.unit(c, f, 3), left[c][f]);
        dueBytes("4: 1999 in the unit of frame 1", x, 12, 188 - 100 + 4, 0, 1, 1, 0, 1, 0, 7, 207);
        x.fail(0, 0, 1);
        x.tick(2);
        due("4: black has none", x.unit(0, 4, 3), 0);
        due("4: then it counts on", x.unit(0, 5, 3), 1995);
    }

    // ---- 5 PACKETS

    private static void countersGoOver() {
        BroadcastPlant x = run(small(), 16);
        dueBytes("5: 15", x, 15 * 12, 1, 65, 1, 48 + 15);
        x.tick(1);
        dueBytes("5: then 0", x, 16 * 12 + 4, 1, 65, 1, 48);
        run(x, 44);
        dueBytes("5: the list's 15", x, 60 * 12, 1, 64, 0, 16 + 15);
        dueBytes("5: a table's 15", x, 60 * 12 + 3, 1, 65, 32, 16 + 15);
        run(x, 4);
        dueBytes("5: the list's 0", x, 64 * 12, 1, 64, 0, 16);
        dueBytes("5: a table's 0", x, 64 * 12 + 1, 1, 65, 0, 16);
        dueBytes("5: nothing has always 0", x, 64 * 12 + 11, 1, 31, 255, 16);
        x = prompt();
        x.set(0, 1000, 1000, 1);
        x.buffer(0, 1000);
        x.tick(8);
        dueBytes("5: without a payload the same", x, 12, 1, 1, 1, 32 + 4);
        dueBytes("5: and the same", x, 84, 1, 1, 1, 32 + 4);
        x.tick(1);
        dueBytes("5: then one more", x, 100, 1, 65, 1, 48 + 5);
        dueFaults("5: and all is right", x, 0, 0, 0, 0, 0, 0, 1, 0);
    }

    /** Channel 0 alone is in service, and its unit of frame 0 has so many bytes with its header. */
    private static BroadcastPlant alone(int bytes) {
        BroadcastPlant x = new BroadcastPlant(12, 0);
        x.clip(100, 1);
        x.service(1, false);
        x.service(2, false);
        x.lines(1, 1);
        x.buffer(0, 20000);
        x.set(0, 16, 3000, 1);
        x.total(bytes - 14);
        x.tick(1);
        due("5: size", x.unit(0, 0, 1), bytes - 14);
        return x;
    }

    private static void dueAllRight(BroadcastPlant x, int frames) {
        x.tick(12);
        dueFaults("5: all is right", x, 0, 0, 0, 0, 0, 0, 0, 0);
        for (int f = 0; f < frames; f++) due("5: and comes, frame " + f, x.shown(0, f, 0), 1);
    }

    private static void fieldsBesideAClock() {
        int[] bytes = {30, 175, 176, 177, 178, 359, 360, 361};
        int[] last = {2, 2, 2, 3, 3, 3, 3, 4};
        int[] field = {154, 9, 8, 183, 182, 1, 0, 183};
        for (int i = 0; i < bytes.length; i++) {
            BroadcastPlant x = alone(bytes[i]);
            due("5: " + bytes[i] + " bytes, the last", x.unit(0, 0, 4), last[i]);
            dueBytes("5: the clock packet", x, 2, 0, 71, 65, 1, 48, Math.max(8, 184 - bytes[i]) - 1, 64 + 16);
            int n = last[i], k = field[i];
            if (n > 2) dueBytes("5: the last packet", x, n, 0, 71, 1, 1, (k > 0 ? 48 : 16) + n - 2);
            if (k > 0) due("5: its field", x.sent(n, 4), k - 1);
            if (n > 2 && k > 1) due("5: without flags", x.sent(n, 5), 0);
            if (n > 2 && k > 2) due("5: then 255", x.sent(n, 3 + k), 255);
            dueAllRight(x, 5);
        }
    }

    /** The unit of frame 1 begins behind the clock packet, which has the last 10 bytes of the unit of frame 0. */
    private static BroadcastPlant beginning(int bytes, boolean key) {
        BroadcastPlant x = alone(176 + 9 * 184 + 10);
        if (key) x.event(0, FOLLOW, 0, 0, 50);
        x.total(bytes - 14);
        x.tick(1);
        due("5: key", x.unit(0, 1, 2), key ? 2 : 0);
        due("5: size", x.unit(0, 1, 1), bytes - 14);
        due("5: the unit of frame 0 ends with the clock packet", x.unit(0, 0, 4), 12);
        dueBytes("5: that", x, 12, 0, 71, 1, 1, 48 + 10, 173, 16);
        return x;
    }

    private static void fieldsWithoutAClock() {
        BroadcastPlant x = beginning(182, false);
        dueBytes("5: 182 bytes", x, 13, 0, 71, 65, 1, 48 + 11, 1, 0, 0, 0, 1, 224);
        due("5: all", x.unit(0, 1, 4), 13);
        dueAllRight(x, 5);
        x = beginning(183, false);
        dueBytes("5: 183 bytes", x, 13, 0, 71, 65, 1, 48 + 11, 0, 0, 0, 1, 224);
        due("5: all", x.unit(0, 1, 4), 13);
        dueAllRight(x, 5);
        x = beginning(184, false);
        dueBytes("5: 184 bytes", x, 13, 0, 71, 65, 1, 16 + 11, 0, 0, 1, 224);
        due("5: all", x.unit(0, 1, 4), 13);
        dueAllRight(x, 5);
        x = beginning(185, false);
        dueBytes("5: 184 of 185 bytes", x, 13, 0, 71, 65, 1, 16 + 11, 0, 0, 1, 224);
        dueBytes("5: one byte", x, 14, 0, 71, 1, 1, 48 + 12, 182, 0, 255);
        due("5: all", x.unit(0, 1, 4), 14);
        dueAllRight(x, 5);
    }

    private static void fieldsWithAKey() {
        BroadcastPlant x = beginning(181, true);
        dueBytes("5: 181 bytes", x, 13, 0, 71, 65, 1, 48 + 11, 2, 64, 255, 0, 0, 1, 224);
        due("5: all", x.unit(0, 1, 4), 13);
        dueAllRight(x, 5);
        x = beginning(182, true);
        dueBytes("5: 182 bytes", x, 13, 0, 71, 65, 1, 48 + 11, 1, 64, 0, 0, 1, 224);
        due("5: all", x.unit(0, 1, 4), 13);
        dueAllRight(x, 5);
        x = beginning(183, true);
        dueBytes("5: 182 of 183 bytes", x, 13, 0, 71, 65, 1, 48 + 11, 1, 64, 0, 0, 1, 224);
        dueBytes("5: one byte", x, 14, 0, 71, 1, 1, 48 + 12, 182, 0, 255);
        due("5: all", x.unit(0, 1, 4), 14);
        dueAllRight(x, 5);
        x = beginning(182 + 184, true);
        dueBytes("5: a full one behind", x, 14, 0, 71, 1, 1, 16 + 12);
        due("5: all", x.unit(0, 1, 4), 14);
        dueAllRight(x, 5);
    }

    private static void keyFlags() {
        BroadcastPlant x = run(small(), 14);
        dueBytes("5: a key of 2", x, 4, 5, 80);
        dueBytes("5: no key", x, 12, 5, 16);
        dueBytes("5: no key", x, 11 * 12, 5, 16);
        dueBytes("5: a key of 1", x, 12 * 12 + 4, 5, 80);
        dueBytes("5: no key", x, 13 * 12, 5, 16);
        x = new BroadcastPlant(12, 0);
        x.tick(1);
        dueBytes("5: behind the beginning of a unit with a key", x, 9, 4, 46, 0);
    }

    private static void room() {
        for (int more = 0; more < 3; more++) {
            BroadcastPlant x = waiting(1);
            due("5: 912 and 102 are above 1000", x.stored(0), 912);
            x.buffer(0, 1012 + more);
            x.tick(1);
            due("5: 1014 of " + (1012 + more), x.unit(0, 0, 0), more == 2 ? 2 : 1);
            due("5: stored", x.stored(0), more == 2 ? 1014 : 912);
        }
        BroadcastPlant x = waiting(1);
        x.buffer(0, 1014 + 183);
        x.tick(1);
        due("5: 183 are no room for 184", x.stored(0), 1014);
        x.buffer(0, 1014 + 175);
        x.tick(1);
        due("5: 175 are no room for 176 beside a clock", x.stored(0), 1014);
        x.buffer(0, 1014 + 176);
        x.tick(1);
        due("5: 176 are", x.stored(0), 1014 + 176);
        x = waiting(1);
        x.buffer(0, 1014 + 184);
        x.tick(1);
        due("5: 184 are room for 184", x.stored(0), 1014 + 184);
    }

    /** 900 bytes of frame 0 leave no room for 114 more within 1000, as long as they count. */
    private static void roomOfEightFrames() {
        BroadcastPlant x = small();
        x.set(0, 886, 886, 1);
        x.buffer(0, 1000);
        x.tick(1);
        due("5: all was sent", x.unit(0, 0, 0), 2);
        x.set(0, 100, 100, 1);
        x.tick(7);
        due("5: frame 7 counts frame 0", x.stored(0), 900);
        due("5: that of 1 waits", x.unit(0, 1, 0), 1);
        x.tick(1);
        due("5: frame 8 does not: 114 with the clock packet, and in five others", x.stored(0), 6 * 114);
        due("5: that of 1 goes with the clock packet", x.unit(0, 1, 4), 100);
        due("5: that of 6 goes last", x.unit(0, 6, 4), 107);
        due("5: that of 7 waits", x.unit(0, 7, 0), 1);
    }

    private static void orderOfChannels() {
        BroadcastPlant x = new BroadcastPlant(12, 0);
        x.set(0, 16, 16, 1);
        x.set(1, 1000, 1000, 1);
        x.set(2, 1000, 1000, 1);
        x.total(0);
        x.tick(1);
        due("5: of like ones the lowest channel", x.unit(1, 0, 4), 11);
        due("5: the other waits", x.stored(2), 176);
        x.set(0, 1000, 1000, 1);
        x.tick(1);
        dueBytes("5: the earliest frame is first, though of the highest channel", x, 15, 1, 1, 33);
        dueBytes("5: until it is sent", x, 18, 1, 1, 33);
        due("5: that is here", x.unit(2, 0, 4), 18);
        dueBytes("5: then the lowest channel", x, 19, 1, 1, 1);
    }

    private static void listsOfChannels() {
        int[] lengths = {9, 13, 17, 21};
        for (int in = 0; in <= 3; in++) {
            BroadcastPlant x = small();
            for (int c = 0; c < 3; c++) x.service(c, c < in);
            x.tick(1);
            dueBytes("5: a list of " + in, x, 0, 4, 0, 0, 176, lengths[in], 0, 1, in < 3 ? 195 : 193, 0, 0);
            due("5: bytes 255 behind its check", x.sent(0, 8 + lengths[in]), 255);
            for (int k = 0; k < in; k++) dueBytes("5: table " + k, x, 1 + k, 1, 65, 16 * k, 16, 0, 2, 176, 18, 0, k + 1);
            for (int k = 0; k < in; k++) dueBytes("5: clock " + k, x, 1 + in + k, 1, 65, 16 * k + 1, 48);
            dueBytes("5: then nothing", x, 1 + 2 * in, 0, 71, 31, 255, 16, 255);
            x.tick(1);
            for (int k = 0; k < in; k++) dueBytes("5: clock " + k, x, 12 + k, 1, 65, 16 * k + 1, 48 + 1);
            dueBytes("5: no list", x, 12 + in, 0, 71, 31, 255, 16, 255);
        }
    }

    /** Units of 3000 bytes in all eight places that are kept. */
    private static void largestUnits() {
        BroadcastPlant x = new BroadcastPlant(40, 0);
        x.lines(1, 1);
        x.set(1, 1000, 3000, 100);
        x.set(0, 16, 16, 1);
        x.set(2, 16, 16, 1);
        x.total(3032);
        x.buffer(1, 20000);
        x.tick(20);
        for (int f = 0; f < 20; f++) due("4: size", x.unit(1, f, 1), 3000);
        for (int f = 0; f < 20; f++) due("5: six have room, then each waits for two frames, " + f, x.unit(1, f, 0), f < 18 ? 2 : 1);
        for (int f = 0; f < 13; f++) due("5: and comes", x.shown(1, f, 0), 1);
        due("5: all is right", x.faults(0), 0);
    }

    /** There is no room for the unit of frame 1, which has a key: it does not begin with that clock packet. */
    private static void clocksWithoutAPayload() {
        BroadcastPlant x = small();
        x.set(0, 886, 886, 1);
        x.buffer(0, 1000);
        x.tick(1);
        x.set(0, 100, 100, 1);
        x.event(0, FOLLOW, 0, 0, 50);
        x.tick(8);
        due("5: a key", x.unit(0, 1, 2), 2);
        dueBytes("5: without a payload it begins nothing", x, 12, 0, 71, 1, 1, 32 + 4, 183, 16);
        dueBytes("5: clock", x, 12, 6, clock(3600, 0));
        due("5: 255 to its end", x.sent(12, 187), 255);
        dueBytes("5: frame 7", x, 84, 0, 71, 1, 1, 32 + 4, 183, 16);
        dueBytes("5: then it begins", x, 100, 0, 71, 65, 1, 48 + 5, 69, 64 + 16);
    }

    /** The highest channel in the last frame. */
    private static void lastUnit() {
        BroadcastPlant x = small();
        x.event(2, FIXED, 2900, 0, 100);
        run(x, 3000);
        dueBytes("4: frame 2999, clip 0, its frame 99", x, 35990, 188 - 100 + 4, 11, 183, 1, 0, 99, 0, 0, 0);
        int[] bytes = new int[100 - 12];
        long at = 65536 * 2 + 2999;
        for (int i = 0; i < bytes.length; i++) {
            at = (1103515245L * at + 12345) % 4294967296L;
            bytes[i] = (int) (at / 65536 % 256);
        }
        dueBytes("4: then up to its size", x, 35990, 188 - 88, bytes);
    }
}
