/**
 * The bounds that each call names: the smallest and the largest numbers that it takes, what these do, the first numbers
 * beyond them, and FULL with BAD ahead of it. What refused calls leave as it was is asked in RefusalsTest.
 */
public final class CallBoundsTest extends Answers {
    private static final int[] CHANNELS_BEYOND = {-1, 3, LOW, HIGH};

    public static void main(String[] args) {
        packetsOfANewObject();
        beginOfANewObject();
        partsOfANewObject();
        clip();
        clipOfLeastAndMost();
        effortOfLeastAndMost();
        fill();
        local();
        localOfLeastAndMost();
        event();
        eventAt();
        eventAboveFixedOnes();
        eventsOfAChannel();
        eventOfLeastAndMost();
        skip();
        take();
        hold();
        overrun();
        overrunUpTo2000();
        fail();
        failOfOneFrame();
        failOfAThousandFrames();
        set();
        setOfLeastAndMost();
        buffer();
        bufferOfLeastAndMost();
        total();
        totalOfLeastAndMost();
        service();
        lines();
        lose();
        loseUpTo300();
        loseOfParities();
        loseAllOfOne();
        alter();
        alterUpTo300();
        alterAllOfOne();
        tick();
        tickUpTo3000();
        eventOf();
        source();
        rows();
        row();
        unit();
        sent();
        stored();
        shown();
        region();
        alarm();
        manyAlarms();
        faults();
        told();
        finish();
    }

    /** As small, with so many frames run. */
    private static BroadcastPlant ran(int frames) {
        return run(small(), frames);
    }

    private static int[] sizes(BroadcastPlant x, int frame) {
        return new int[] {x.unit(0, frame, 1), x.unit(1, frame, 1), x.unit(2, frame, 1)};
    }

    // ---- 1

    private static void packetsOfANewObject() {
        int[] given = {LOW, -1, 0, 11, 12, 13, 39, 40, 41, HIGH};
        int[] packets = {12, 12, 12, 12, 12, 13, 39, 40, 40, 40};
        for (int i = 0; i < given.length; i++) {
            due("1: packets " + given[i], run(new BroadcastPlant(given[i], 0), 1).told(1), packets[i]);
        }
    }

    /** The first clock packet is packet 4 of 12: 1200 behind BEGIN. */
    private static void beginOfANewObject() {
        int[] given = {0, 1, HIGH, LOW, -2, -1};
        long[] bases = {1200, 1202, 4294967294L + 1200, 4294967296L + 1200, 1196, 1198};
        for (int i = 0; i < given.length; i++) {
            dueBytes("1: begin " + given[i], run(new BroadcastPlant(12, given[i]), 1), 4, 6, clock(bases[i], 0));
        }
    }

    private static void partsOfANewObject() {
        BroadcastPlant x = new BroadcastPlant(12, 0);
        due("1: no clip", x.fill(0), BAD);
        due("1: no clip for an event", x.event(0, FOLLOW, 0, 0, 1), BAD);
        for (int c = 0; c < 3; c++) {
            due("1: no event", x.eventOf(c, 0, 0), BAD);
            due("1: no event to skip", x.skip(c, 0), BAD);
            due("1: nothing is on", x.overrun(c, 1), BAD);
            due("1: no row", x.rows(c), 0);
            due("1: nothing is stored", x.stored(c), 0);
            due("1: buffer", x.buffer(c, 8000), 8000);
        }
        for (int i = 0; i < 12; i++) due("1: told " + i, x.told(i), i == 5 || i == 6 ? NONE : 0);
        due("1: total", x.total(2000), 2000);
        x.tick(1);
        due("1: no fill", x.source(0, 0, 0), 0);
        dueRow("1: total is shared", sizes(x, 0), 667, 667, 666);
        x.set(0, 16, 3000, 20);
        x.tick(1);
        dueRow("1: weight is 10: one of 20 has twice as much", sizes(x, 1), 1000, 500, 500);
        x = run(small(), 1);
        dueRow("1: least", sizes(x, 0), 100, 100, 100);
        x.total(9000);
        x.tick(1);
        dueRow("1: greatest", sizes(x, 1), 1500, 1500, 1500);
        x = prompt();
        x.event(0, BREAK, 0, 0, 1);
        x.tick(8);
        due("1: no local", x.region(0, 0), 0);
        x = new BroadcastPlant(40, 0);
        x.total(0);
        x.set(0, 1000, 1000, 1);
        x.tick(8);
        due("1: 7 times 1014, then 176 + 3 times 184 within 8000", x.stored(0), 7098 + 728);
    }

    // ---- 2

    private static BroadcastPlant withClips(int count) {
        BroadcastPlant x = new BroadcastPlant(12, 0);
        for (int i = 0; i < count; i++) due("2: number", x.clip(5, 5), i);
        return x;
    }

    private static void clip() {
        dueTaken("2: length", 1, 1000, v -> withClips(0).clip(v, 1));
        dueTaken("2: effort", 1, 100, v -> withClips(0).clip(1, v));
        due("2: the last one", withClips(15).clip(1, 1), 15);
        BroadcastPlant x = withClips(16);
        due("2: full", x.clip(1, 1), FULL);
        due("2: full still", x.clip(1000, 100), FULL);
        int[][] bad = {{0, 1}, {1001, 1}, {1, 0}, {1, 101}, {LOW, 1}, {HIGH, 1}, {1, LOW}, {1, HIGH}};
        for (int[] b : bad) due("2: bad ahead of full", x.clip(b[0], b[1]), BAD);
        due("2: no 17th", x.fill(16), BAD);
        due("2: the 16th", x.fill(15), 1);
    }

    private static void clipOfLeastAndMost() {
        BroadcastPlant x = new BroadcastPlant(12, 0);
        x.clip(1, 1);
        x.clip(1000, 1);
        x.event(0, FOLLOW, 0, 0, 1000);
        x.event(1, FOLLOW, 0, 1, 1000);
        run(x, 999);
        x.overrun(1, 1000);
        run(x, 2);
        due("2: a length of 1 has frame 0", x.source(0, 999, 3), 0);
        due("2: a length of 1000 has frame 999", x.source(1, 999, 3), 999);
        due("2: and then 0", x.source(1, 1000, 3), 0);
    }

    /** Values of 3 and 300: 20 bytes and 2000 bytes have the same share. */
    private static void effortOfLeastAndMost() {
        BroadcastPlant x = new BroadcastPlant(12, 0);
        x.clip(10, 1);
        x.clip(10, 100);
        x.event(0, FOLLOW, 0, 0, 10);
        x.event(1, FOLLOW, 0, 1, 10);
        for (int c = 0; c < 2; c++) x.set(c, 16, 3000, 1);
        x.service(2, false);
        x.total(2020);
        x.tick(1);
        dueRow("2: efforts 1 and 100", sizes(x, 0), 20, 2000, 0);
    }

    // ---- 3, 4

    private static void fill() {
        for (int b : new int[] {-1, 0, 1, LOW, HIGH}) due("3: without clips", withClips(0).fill(b), BAD);
        dueTaken("3: of one clip", 0, 0, v -> withClips(1).fill(v));
        dueTaken("3: of 16 clips", 0, 15, v -> withClips(16).fill(v));
        BroadcastPlant x = withClips(2);
        x.clip(1, 1);
        for (int i = 1; i <= 6; i++) due("3: one may be told again", x.fill(1), i);
        due("3: full", x.fill(2), FULL);
        due("3: full, though told before", x.fill(1), FULL);
        for (int b : new int[] {-1, 3, LOW, HIGH}) due("3: bad ahead of full", x.fill(b), BAD);
        x.event(0, FIXED, 1, 0, 1);
        x.tick(1);
        due("3: what was refused is no fill", x.source(0, 0, 0), 0);
        x = new BroadcastPlant(12, 0);
        for (int i = 1; i <= 6; i++) x.clip(i, 1);
        for (int i = 5; i >= 0; i--) x.fill(i);
        x.event(0, FIXED, 1, 0, 1);
        x.tick(1);
        due("3: the sixth is one", x.source(0, 0, 1), 5);
        due("3: its clip", x.source(0, 0, 2), 0);
    }

    private static void local() {
        dueTaken("4: length", 1, 1000, v -> withClips(0).local(v));
        BroadcastPlant x = prompt();
        for (int i = 1; i <= 6; i++) due("4: how many", x.local(i == 6 ? 2 : 9), i);
        due("4: full", x.local(1), FULL);
        for (int b : new int[] {0, -1, 1001, LOW, HIGH}) due("4: bad ahead of full", x.local(b), BAD);
        x.event(0, BREAK, 0, 0, 1);
        x.event(0, BREAK, 0, 0, 2);
        x.tick(9);
        due("4: what was refused is no local", x.region(0, 0), 0);
        due("4: the sixth is one", x.region(1, 0), 6);
    }

    private static void localOfLeastAndMost() {
        BroadcastPlant x = prompt();
        x.local(1);
        x.local(1000);
        x.event(0, BREAK, 0, 0, 1);
        x.event(0, BREAK, 0, 0, 1000);
        run(x, 1010);
        due("4: one frame", x.region(0, 0), 1);
        due("4: the first of 1000", x.region(1, 0), 2);
        due("4: its frame", x.region(1, 1), 0);
        due("4: the last of 1000", x.region(1000, 0), 2);
        due("4: its frame", x.region(1000, 1), 999);
        due("4: then channel 0", x.region(1001, 0), 0);
    }

    // ---- 5

    private static void event() {
        dueTaken("5: channel", 0, 2, v -> plain().event(v, FOLLOW, 0, 0, 1));
        dueTaken("5: kind", 0, 3, v -> plain().event(0, v, 0, 0, 1));
        dueTaken("5: clip of one", 0, 0, v -> plain().event(0, FOLLOW, 0, v, 1));
        dueTaken("5: clip of 16", 0, 15, v -> withClips(16).event(0, FOLLOW, 0, v, 1));
        for (int v : new int[] {-1, 0, LOW, HIGH}) due("5: clip of none", withClips(0).event(0, FOLLOW, 0, v, 1), BAD);
        for (int kind = 0; kind < 4; kind++) {
            int of = kind;
            dueTaken("5: length, kind " + kind, 1, 1000, v -> plain().event(0, of, 0, 0, v));
            if (kind != FIXED) dueTaken("5: at, kind " + kind, 0, 0, v -> plain().event(0, of, v, 0, 1));
        }
    }

    private static void eventAt() {
        dueTaken("5: at, now 0", 0, 2999, v -> plain().event(0, FIXED, v, 0, 1));
        dueTaken("5: at, now 5", 5, 2999, v -> ran(5).event(0, FIXED, v, 0, 1));
        dueTaken("5: at, now 2999", 2999, 2999, v -> ran(2999).event(0, FIXED, v, 0, 1));
        for (int v : new int[] {0, 2999, 3000, LOW, HIGH}) due("5: at, now 3000", ran(3000).event(0, FIXED, v, 0, 1), BAD);
        due("5: a follower comes also then", ran(3000).event(0, FOLLOW, 0, 0, 1), 0);
        for (int kind = 0; kind < 4; kind++) {
            if (kind != FIXED) due("5: now is 5, at is 0 all the same", ran(5).event(0, kind, 0, 0, 1), 0);
            if (kind != FIXED) due("5: and not 5", ran(5).event(0, kind, 5, 0, 1), BAD);
        }
        BroadcastPlant x = plain();
        x.event(0, FIXED, 0, 0, 1);
        x.tick(5);
        x.event(1, FIXED, 5, 0, 1);
        x.event(2, FIXED, 2999, 0, 1);
        x.tick(1);
        due("5: on in frame 0", x.eventOf(0, 0, 3), 0);
        due("5: on in the frame that was now", x.eventOf(1, 0, 3), 5);
        run(x, 2993);
        due("5: not on in 2998", x.eventOf(2, 0, 0), 0);
        x.tick(1);
        due("5: on in 2999", x.eventOf(2, 0, 3), 2999);
    }

    private static BroadcastPlant withFixed(int... frames) {
        BroadcastPlant x = plain();
        for (int i = 0; i < frames.length; i++) due("5: fixed", x.event(0, FIXED, frames[i], 0, 1), i);
        return x;
    }

    private static void eventAboveFixedOnes() {
        dueTaken("5: above 10", 11, 2999, v -> withFixed(10).event(0, FIXED, v, 0, 1));
        dueTaken("5: above 0, 10 and 11", 12, 2999, v -> withFixed(0, 10, 11).event(0, FIXED, v, 0, 1));
        dueTaken("5: above 2998", 2999, 2999, v -> withFixed(2998).event(0, FIXED, v, 0, 1));
        for (int v : new int[] {0, 2998, 2999, 3000}) due("5: nothing is above 2999", withFixed(2999).event(0, FIXED, v, 0, 1), BAD);
        dueTaken("5: of another channel all", 0, 2999, v -> withFixed(10).event(1, FIXED, v, 0, 1));
        BroadcastPlant x = withFixed(10);
        x.skip(0, 0);
        due("5: also above one that is skipped", x.event(0, FIXED, 10, 0, 1), BAD);
        due("5: above it", x.event(0, FIXED, 11, 0, 1), 1);
        due("5: a refused one sets no bound", x.event(1, FIXED, 40, 1, 1), BAD);
        due("5: nor one behind the last frame", x.event(1, FIXED, 3000, 0, 1), BAD);
        due("5: so this is above all", x.event(1, FIXED, 0, 0, 1), 0);
    }

    private static void eventsOfAChannel() {
        BroadcastPlant x = plain();
        for (int i = 0; i < 60; i++) due("5: number", x.event(1, i == 59 ? FOLLOW : MANUAL, 0, 0, 1), i);
        for (int kind = 0; kind < 4; kind++) due("5: full, kind " + kind, x.event(1, kind, 0, 0, 1), FULL);
        int[][] bad = {{-1, 0, 0, 0, 1}, {3, 0, 0, 0, 1}, {1, -1, 0, 0, 1}, {1, 4, 0, 0, 1}, {1, 0, -1, 0, 1}, {1, 0, 1, 0, 1},
            {1, 1, -1, 0, 1}, {1, 1, 3000, 0, 1}, {1, 0, 0, -1, 1}, {1, 0, 0, 1, 1}, {1, 0, 0, 0, 0}, {1, 0, 0, 0, 1001}};
        for (int[] b : bad) due("5: bad ahead of full", x.event(b[0], b[1], b[2], b[3], b[4]), BAD);
        due("5: channel 0 is not full", x.event(0, FOLLOW, 0, 0, 1), 0);
        due("5: channel 2 is not full", x.event(2, FOLLOW, 0, 0, 1), 0);
        due("5: a full one stays so", x.skip(1, 0), 1);
        due("5: though one is skipped", x.event(1, FOLLOW, 0, 0, 1), FULL);
        for (int i = 1; i < 59; i++) x.skip(1, i);
        x.tick(2);
        due("5: the 60th is on", x.source(1, 0, 1), 59);
        due("5: and ended", x.eventOf(1, 59, 0), 2);
        due("5: there is no 61st", x.eventOf(1, 60, 0), BAD);
    }

    private static void eventOfLeastAndMost() {
        BroadcastPlant x = plain();
        x.event(0, FOLLOW, 0, 0, 1);
        x.event(1, FOLLOW, 0, 0, 1000);
        x.tick(1);
        due("5: one frame", x.eventOf(0, 0, 0), 1);
        x.tick(1);
        due("5: no second", x.eventOf(0, 0, 0), 2);
        due("5: had one", x.eventOf(0, 0, 1), 1);
        run(x, 998);
        due("5: 1000 frames", x.eventOf(1, 0, 0), 1);
        x.tick(1);
        due("5: no more", x.eventOf(1, 0, 0), 2);
        due("5: had 1000", x.eventOf(1, 0, 1), 1000);
    }

    // ---- 6 .. 8

    /** Channel 0's events: 0 ended, 1 cut, 2 on, 3 skipped, 4 planned; now is 6. */
    private static BroadcastPlant withStates() {
        BroadcastPlant x = plain();
        x.event(0, FOLLOW, 0, 0, 2);
        x.event(0, FOLLOW, 0, 0, 9);
        x.event(0, FOLLOW, 0, 0, 9);
        x.event(0, FOLLOW, 0, 0, 9);
        x.event(0, FOLLOW, 0, 0, 9);
        x.tick(4);
        x.take(0);
        x.tick(2);
        x.skip(0, 3);
        return x;
    }

    private static void skip() {
        dueTaken("6: channel", 0, 2, v -> {
            BroadcastPlant x = plain();
            for (int c = 0; c < 3; c++) x.event(c, FOLLOW, 0, 0, 1);
            return x.skip(v, 0);
        });
        dueTaken("6: event", 4, 4, v -> withStates().skip(0, v));
        int[] states = {2, 3, 1, 4, 0};
        BroadcastPlant x = withStates();
        for (int e = 0; e < 4; e++) {
            due("6: state of " + e, x.eventOf(0, e, 0), states[e]);
            due("6: not planned", x.skip(0, e), BAD);
            due("6: and stays so", x.eventOf(0, e, 0), states[e]);
        }
        due("6: planned", x.skip(0, 4), 1);
        due("6: now not", x.skip(0, 4), BAD);
        due("6: behind the last", x.skip(0, 5), BAD);
        due("6: of a channel without any", x.skip(1, 0), BAD);
        for (int i = 0; i < 60; i++) x.event(2, MANUAL, 0, 0, 1);
        due("6: the 60th", x.skip(2, 59), 1);
        due("6: no 61st", x.skip(2, 60), BAD);
    }

    private static void take() {
        dueTaken("7: channel", 0, 2, v -> plain().take(v));
        BroadcastPlant x = plain();
        due("7: with nothing in the row", x.take(0), 1);
        for (int c : CHANNELS_BEYOND) due("7: no channel", x.take(c), BAD);
        for (int c = 0; c < 3; c++) x.event(c, MANUAL, 0, 0, 5);
        x.tick(1);
        due("7: of channel 0", x.eventOf(0, 0, 0), 1);
        due("7: not of channel 1", x.eventOf(1, 0, 0), 0);
        due("7: not of channel 2", x.eventOf(2, 0, 0), 0);
        x = plain();
        x.take(0);
        x.tick(1);
        x.event(0, MANUAL, 0, 0, 5);
        x.tick(1);
        due("7: it is asked for one frame", x.eventOf(0, 0, 0), 0);
        x.take(0);
        x.event(0, FOLLOW, 0, 0, 5);
        x.tick(1);
        due("7: the first planned one alone", x.eventOf(0, 0, 0), 1);
        due("7: not the one behind", x.eventOf(0, 1, 0), 0);
        x.take(0);
        x.tick(1);
        x.take(0);
        x.tick(1);
        due("7: with none planned what is on is cut", x.eventOf(0, 1, 0), 3);
        due("7: and nothing is on", x.source(0, 4, 0), 0);
    }

    private static void hold() {
        dueTaken("8: channel", 0, 2, v -> plain().hold(v, true));
        dueTaken("8: channel, off", 0, 2, v -> plain().hold(v, false));
        BroadcastPlant x = plain();
        for (int c = 0; c < 3; c++) x.event(c, FOLLOW, 0, 0, 1);
        due("8: none before", x.hold(1, true), 0);
        for (int c : CHANNELS_BEYOND) due("8: no channel", x.hold(c, true), BAD);
        due("8: one before", x.hold(1, true), 1);
        x.tick(2);
        int[] states = {2, 1, 2};
        for (int c = 0; c < 3; c++) due("8: channel " + c, x.eventOf(c, 0, 0), states[c]);
        due("8: had more than its length", x.eventOf(1, 0, 1), 2);
        due("8: off", x.hold(1, false), 1);
        due("8: still on", x.eventOf(1, 0, 0), 1);
        x.tick(1);
        due("8: then ended", x.eventOf(1, 0, 0), 2);
        due("8: none before", x.hold(1, false), 0);
    }

    // ---- 9, 10

    private static BroadcastPlant withOn(int length) {
        BroadcastPlant x = plain();
        for (int c = 0; c < 3; c++) x.event(c, FOLLOW, 0, 0, length);
        x.tick(1);
        return x;
    }

    private static void overrun() {
        dueTaken("9: channel", 0, 2, v -> withOn(1).overrun(v, 1));
        dueTaken("9: frames", 1, 1000, v -> withOn(1).overrun(0, v));
        dueTaken("9: frames of 1000", 1, 1000, v -> withOn(1000).overrun(0, v));
        due("9: one more", withOn(1).overrun(0, 1), 2);
        due("9: 1000 more", withOn(1).overrun(0, 1000), 1001);
        BroadcastPlant x = plain();
        x.event(0, FOLLOW, 0, 0, 2);
        due("9: none is on yet", x.overrun(0, 1), BAD);
        x.tick(2);
        due("9: had its length, and is on", x.overrun(0, 1), 3);
        x.tick(2);
        due("9: ended", x.overrun(0, 1), BAD);
        due("9: its length stays", x.eventOf(0, 0, 2), 3);
        x.event(0, FOLLOW, 0, 0, 9);
        x.tick(1);
        x.take(0);
        x.tick(1);
        due("9: cut", x.overrun(0, 1), BAD);
        due("9: its length stays", x.eventOf(0, 1, 2), 9);
    }

    private static void overrunUpTo2000() {
        BroadcastPlant x = withOn(1000);
        due("9: 2000", x.overrun(0, 1000), 2000);
        due("9: 2001", x.overrun(0, 1), BAD);
        due("9: 1999", x.overrun(1, 999), 1999);
        due("9: 2001", x.overrun(1, 2), BAD);
        due("9: stays", x.eventOf(1, 0, 2), 1999);
        due("9: 2000", x.overrun(1, 1), 2000);
        run(x, 1999);
        due("9: on in frame 1999", x.eventOf(0, 0, 0), 1);
        due("9: the clip's frame", x.source(0, 1999, 3), 99);
        x.tick(1);
        due("9: ended in 2000", x.eventOf(0, 0, 0), 2);
        due("9: had", x.eventOf(0, 0, 1), 2000);
    }

    private static void fail() {
        dueTaken("10: channel", 0, 2, v -> plain().fail(v, 0, 1));
        dueTaken("10: player", 0, 1, v -> plain().fail(0, v, 1));
        dueTaken("10: frames", 1, 1000, v -> plain().fail(0, 0, v));
        dueTaken("10: frames, now 3000", 1, 1000, v -> ran(3000).fail(0, 0, v));
    }

    /** Whether the frame was given by this player, and not BLACK. */
    private static void dueGiven(String what, BroadcastPlant x, int frame, int player, boolean given) {
        due(what + ", player of frame " + frame, x.source(0, frame, 4), player);
        due(what + ", frame " + frame, x.source(0, frame, 0), given ? 1 : 0);
    }

    private static void failOfOneFrame() {
        BroadcastPlant x = withOn(100);
        x.fail(0, 0, 1);
        x.fail(0, 1, 2);
        x.tick(3);
        dueGiven("10: before", x, 0, 0, true);
        dueGiven("10: one frame", x, 1, 0, false);
        dueGiven("10: the second of two", x, 2, 1, false);
        dueGiven("10: no second of one", x, 3, 0, true);
        due("10: of another channel none", x.source(1, 1, 0), 1);
        x.fail(0, 0, 3);
        x.fail(0, 0, 1);
        x.fail(0, 1, 1);
        x.tick(1);
        x.fail(0, 1, 1);
        x.tick(2);
        dueGiven("10: the last told counts", x, 4, 0, false);
        dueGiven("10: told for the next", x, 5, 1, false);
        dueGiven("10: and not what was told before", x, 6, 0, true);
    }

    private static void failOfAThousandFrames() {
        int[] second = {998, 999};
        for (int s : second) {
            BroadcastPlant x = plain();
            x.event(0, FOLLOW, 0, 0, 1000);
            x.fail(0, 0, 1000);
            run(x, 1);
            x.overrun(0, 1000);
            run(x, s - 1);
            x.fail(0, 1, 1);
            run(x, 2);
            dueGiven("10: the first", x, 0, 0, false);
            dueGiven("10: the other one", x, 1, 1, true);
            dueGiven("10: fails itself", x, s, 1, false);
            dueGiven("10: the last of 1000 is 999", x, s + 1, 0, s + 1 > 999);
        }
    }

    // ---- 11 .. 13

    private static void set() {
        dueTaken("11: channel", 0, 2, v -> plain().set(v, 16, 16, 1));
        dueTaken("11: least", 16, 1000, v -> plain().set(0, v, 3000, 1));
        dueTaken("11: greatest of 16", 16, 3000, v -> plain().set(0, 16, v, 1));
        dueTaken("11: greatest of 1000", 1000, 3000, v -> plain().set(0, 1000, v, 1));
        dueTaken("11: weight", 1, 100, v -> plain().set(0, 16, 16, v));
    }

    private static void setOfLeastAndMost() {
        BroadcastPlant x = new BroadcastPlant(40, 0);
        x.set(0, 16, 16, 1);
        x.set(1, 1000, 1000, 100);
        x.set(2, 16, 3000, 100);
        x.total(9000);
        x.tick(1);
        dueRow("11: all have their greatest", sizes(x, 0), 16, 1000, 3000);
        x.total(0);
        x.tick(1);
        dueRow("11: all have their least", sizes(x, 1), 16, 1000, 16);
        x = new BroadcastPlant(12, 0);
        x.set(0, 16, 3000, 1);
        x.set(1, 16, 3000, 100);
        x.set(2, 16, 16, 1);
        x.total(2036);
        x.tick(1);
        dueRow("11: weights of 1 and 100", sizes(x, 0), 20, 2000, 16);
        x.set(0, 16, 3000, 100);
        dueRow("11: what was made stays", sizes(x, 0), 20, 2000, 16);
        x.tick(1);
        dueRow("11: from the next frame on", sizes(x, 1), 1010, 1010, 16);
    }

    private static void buffer() {
        dueTaken("12: channel", 0, 2, v -> plain().buffer(v, 1000));
        dueTaken("12: bytes", 1000, 20000, v -> plain().buffer(0, v));
        BroadcastPlant x = plain();
        due("12: it was", x.buffer(1, 1000), 8000);
        due("12: refused", x.buffer(1, 999), BAD);
        due("12: it was", x.buffer(1, 20000), 1000);
        due("12: refused", x.buffer(1, 20001), BAD);
        due("12: it was", x.buffer(1, 8000), 20000);
        due("12: of another", x.buffer(0, 1000), 8000);
    }

    private static void bufferOfLeastAndMost() {
        BroadcastPlant x = new BroadcastPlant(40, 0);
        x.total(0);
        x.set(0, 986, 986, 1);
        x.set(1, 987, 987, 1);
        x.buffer(0, 1000);
        x.buffer(1, 1000);
        x.tick(1);
        due("12: 1000 bytes are within 1000", x.stored(0), 1000);
        due("12: sent", x.unit(0, 0, 0), 2);
        due("12: 1001 are not: 176 + 4 times 184", x.stored(1), 912);
        due("12: not sent", x.unit(1, 0, 0), 1);
        x = new BroadcastPlant(40, 0);
        x.total(0);
        x.set(0, 1000, 3000, 1);
        x.set(1, 16, 16, 1);
        x.set(2, 16, 16, 1);
        x.total(3032);
        x.buffer(0, 20000);
        x.tick(8);
        due("12: 6 times 3014, then 176 + 9 times 184 within 20000", x.stored(0), 18084 + 1832);
        x.buffer(0, 1000);
        due("12: what is stored stays", x.stored(0), 19916);
        x.tick(1);
        due("12: but for what is old, and nothing comes", x.stored(0), 19916 - 3014);
    }

    private static void total() {
        dueTaken("13: bytes", 0, 9000, v -> plain().total(v));
        BroadcastPlant x = plain();
        due("13: it was", x.total(0), 2000);
        due("13: refused", x.total(-1), BAD);
        due("13: it was", x.total(9000), 0);
        due("13: refused", x.total(9001), BAD);
        due("13: it was", x.total(1), 9000);
    }

    private static void totalOfLeastAndMost() {
        int[] totals = {0, 48, 49, 50, 51, 8998, 8999, 9000};
        int[][] due = {{16, 16, 16}, {16, 16, 16}, {17, 16, 16}, {17, 17, 16}, {17, 17, 17},
            {3000, 2999, 2999}, {3000, 3000, 2999}, {3000, 3000, 3000}};
        for (int i = 0; i < totals.length; i++) {
            BroadcastPlant x = new BroadcastPlant(12, 0);
            for (int c = 0; c < 3; c++) x.set(c, 16, 3000, 1);
            x.total(totals[i]);
            x.tick(1);
            dueRow("13: total " + totals[i], sizes(x, 0), due[i]);
        }
        BroadcastPlant x = new BroadcastPlant(12, 0);
        for (int c = 0; c < 3; c++) x.set(c, 16, 2999, 1);
        x.total(9000);
        x.tick(1);
        dueRow("13: when all have their greatest, that is all", sizes(x, 0), 2999, 2999, 2999);
        x.total(0);
        dueRow("13: what was made stays", sizes(x, 0), 2999, 2999, 2999);
    }

    // ---- 14, 15

    private static void service() {
        dueTaken("14: channel", 0, 2, v -> plain().service(v, false));
        dueTaken("14: channel, on", 0, 2, v -> plain().service(v, true));
        BroadcastPlant x = small();
        for (int c : CHANNELS_BEYOND) due("14: no channel", x.service(c, false), BAD);
        due("14: told so at first", x.service(2, true), 1);
        due("14: told so", x.service(2, false), 1);
        due("14: told otherwise", x.service(2, false), 0);
        due("14: told otherwise", x.service(2, true), 0);
        due("14: told so again", x.service(2, true), 1);
        x.tick(1);
        due("14: nothing has changed", x.told(8), 0);
        x.service(2, false);
        x.tick(3);
        due("14: of frame 3 there is a unit", x.unit(2, 3, 0), 2);
        x.service(2, true);
        x.service(2, false);
        x.tick(1);
        due("14: of frame 4 there is none", x.unit(2, 4, 0), 0);
        due("14: told just ahead of it", x.told(8), 1);
        x.service(2, true);
        x.tick(3);
        due("14: of frame 7 there is none", x.unit(2, 7, 0), 0);
        x.tick(1);
        due("14: of frame 8 there is one", x.unit(2, 8, 0), 2);
    }

    private static void lines() {
        dueTaken("15: columns", 1, 8, v -> plain().lines(v, 1));
        dueTaken("15: lines", 1, 8, v -> plain().lines(1, v));
        int[][] sizes = {{1, 1}, {8, 1}, {1, 8}, {8, 8}};
        int[] blocks = {64, 8, 8, 1};
        for (int i = 0; i < sizes.length; i++) {
            BroadcastPlant x = new BroadcastPlant(16, 0);
            x.lines(sizes[i][0], sizes[i][1]);
            x.tick(3);
            due("15: blocks of 48", x.told(2), blocks[i] * 3 / 4);
            x.tick(1);
            due("15: blocks of 64", x.told(2), blocks[i]);
        }
        BroadcastPlant x = new BroadcastPlant(20, 0);
        x.lines(0, 8);
        x.lines(8, 9);
        x.tick(1);
        due("15: 5 and 4 at first", x.told(2), 1);
    }

    // ---- 16, 17

    private static void lose() {
        dueTaken("16: kind", 0, 16, v -> plain().lose(v, 0));
        dueTaken("16: packets of 12", 0, 35999, v -> plain().lose(0, v));
        dueTaken("16: packets of 40", 0, 119999, v -> new BroadcastPlant(40, 0).lose(0, v));
        dueTaken("16: packets, now 2", 24, 35999, v -> ran(2).lose(0, v));
        dueTaken("16: packets, now 2999", 35988, 35999, v -> ran(2999).lose(0, v));
        for (int n : new int[] {-1, 0, 35999, 36000, LOW, HIGH}) due("16: packets, now 3000", ran(3000).lose(0, n), BAD);
        dueTaken("16: blocks", 0, 200000, v -> plain().lose(1, v));
        dueTaken("16: blocks of kind 16", 0, 200000, v -> plain().lose(16, v));
        dueTaken("16: blocks, 12 of 20 were sent", 0, 200000, v -> ran(1).lose(1, v));
        dueTaken("16: blocks, 24 of 20 were sent", 1, 200000, v -> ran(2).lose(1, v));
        dueTaken("16: blocks, 60 of 20 were sent", 3, 200000, v -> ran(5).lose(16, v));
        dueTaken("16: blocks, now 3000", 1800, 200000, v -> ran(3000).lose(2, v));
    }

    private static void loseUpTo300() {
        BroadcastPlant x = plain();
        for (int i = 1; i <= 299; i++) due("16: how many", x.lose(i % 17, 200), i);
        due("16: the 300th", x.lose(16, 200000), 300);
        for (int kind = 0; kind <= 16; kind++) due("16: full, kind " + kind, x.lose(kind, 35999), FULL);
        int[][] bad = {{-1, 200}, {17, 200}, {0, -1}, {0, 36000}, {1, -1}, {1, 200001}, {16, 200001}};
        for (int[] b : bad) due("16: bad ahead of full", x.lose(b[0], b[1]), BAD);
        due("16: alterations are not full", x.alter(0, 0, 1), 1);
        x.tick(16);
        due("16: full still with packet 191", x.lose(0, 200), FULL);
        x.tick(1);
        due("16: 17 of packet 200 are gone", x.lose(0, 300), 300 - 17 + 1);
        due("16: lost once", x.told(3), 1);
    }

    private static void loseOfParities() {
        BroadcastPlant x = small();
        due("16: of block 0", x.lose(1, 0), 1);
        due("16: a parity that it has not", x.lose(10, 0), 2);
        due("16: of block 1", x.lose(16, 1), 3);
        x.tick(1);
        due("16: 12 of 20 were sent", x.lose(1, 0), 4);
        x.tick(1);
        due("16: block 0 is no more", x.lose(1, 0), BAD);
        due("16: three of it are gone", x.lose(0, 24), 2);
        x.tick(1);
        due("16: packet 24 is gone, 36 of 40 were sent", x.lose(16, 1), 2);
        x.tick(1);
        due("16: block 1 is gone", x.lose(0, 48), 1);
    }

    private static void loseAllOfOne() {
        BroadcastPlant x = prompt();
        for (int i = 1; i <= 300; i++) due("16: of one packet", x.lose(0, 11), i);
        x.tick(1);
        due("16: all are gone", x.lose(0, 12), 1);
        due("16: and it was lost once", x.told(3), 1);
        x = prompt();
        for (int i = 1; i <= 300; i++) due("16: of one parity", x.lose(1, 11), i);
        x.tick(1);
        due("16: all are gone", x.lose(1, 12), 1);
    }

    private static void alter() {
        dueTaken("17: packets of 12", 0, 35999, v -> plain().alter(v, 0, 1));
        dueTaken("17: packets of 40", 0, 119999, v -> new BroadcastPlant(40, 0).alter(v, 0, 1));
        dueTaken("17: packets, now 2", 24, 35999, v -> ran(2).alter(v, 0, 1));
        dueTaken("17: packets, now 2999", 35988, 35999, v -> ran(2999).alter(v, 0, 1));
        for (int n : new int[] {-1, 0, 35999, 36000, LOW, HIGH}) due("17: packets, now 3000", ran(3000).alter(n, 0, 1), BAD);
        dueTaken("17: byte", 0, 187, v -> plain().alter(0, v, 1));
        dueTaken("17: mask", 1, 255, v -> plain().alter(0, 0, v));
        BroadcastPlant x = prompt();
        x.alter(0, 0, 1);
        x.alter(1, 1, 128);
        x.alter(4, 187, 1);
        x.alter(5, 187, 255);
        x.tick(1);
        dueFaults("17: the first byte, the second, the last", x, 2, 0, 0, 0, 0, 0, 0, 0);
        x = prompt();
        x.tick(1);
        x.alter(12, 187, 1);
        x.alter(13, 187, 255);
        x.alter(14, 187, 128);
        x.alter(14, 187, 128);
        x.tick(1);
        dueFaults("17: the last byte of two units; twice is as it was", x, 0, 0, 0, 0, 0, 0, 0, 2);
        due("17: as it was sent", x.sent(23, 187), 255);
    }

    private static void alterUpTo300() {
        BroadcastPlant x = plain();
        for (int i = 1; i <= 300; i++) due("17: how many", x.alter(i <= 17 ? 200 : 35999, 187, 255), i);
        due("17: full", x.alter(35999, 187, 255), FULL);
        due("17: full, of another", x.alter(0, 0, 1), FULL);
        int[][] bad = {{-1, 0, 1}, {36000, 0, 1}, {0, -1, 1}, {0, 188, 1}, {0, 0, 0}, {0, 0, 256}};
        for (int[] b : bad) due("17: bad ahead of full", x.alter(b[0], b[1], b[2]), BAD);
        due("17: losses are not full", x.lose(0, 0), 1);
        x.tick(16);
        due("17: full still with packet 191", x.alter(35999, 187, 255), FULL);
        x.tick(1);
        due("17: 17 of packet 200 are gone", x.alter(300, 0, 1), 300 - 17 + 1);
    }

    private static void alterAllOfOne() {
        for (int count = 299; count <= 300; count++) {
            BroadcastPlant x = prompt();
            for (int i = 1; i <= count; i++) due("17: of one byte", x.alter(11, 0, 1), i);
            x.tick(1);
            due("17: all are gone", x.alter(12, 0, 1), 1);
            due("17: " + count + " of them are joined", x.faults(1), count % 2);
        }
    }

    // ---- 18

    private static void tick() {
        dueTaken("18: frames", 1, 100, v -> small().tick(v));
        BroadcastPlant x = small();
        due("18: one", x.tick(1), 1);
        due("18: refused", x.tick(0), BAD);
        due("18: a hundred", x.tick(100), 101);
        due("18: refused", x.tick(101), BAD);
        due("18: now", x.told(0), 101);
    }

    private static void tickUpTo3000() {
        for (int left : new int[] {1, 2, 50, 99}) {
            BroadcastPlant x = ran(3000 - left);
            due("18: full, " + left + " are left", x.tick(left + 1), FULL);
            due("18: full with a hundred", x.tick(100), FULL);
            for (int b : new int[] {-1, 0, 101, LOW, HIGH}) due("18: bad ahead of full", x.tick(b), BAD);
            due("18: now stays", x.told(0), 3000 - left);
            due("18: packets, too", x.told(1), 12 * (3000 - left));
            due("18: up to 3000", x.tick(left), 3000);
            due("18: no more", x.tick(1), FULL);
            for (int b : new int[] {0, 101, LOW, HIGH}) due("18: bad ahead of full", x.tick(b), BAD);
            due("18: all packets", x.told(1), 36000);
        }
        BroadcastPlant x = ran(2900);
        due("18: a hundred up to 3000", x.tick(100), 3000);
    }

    // ---- 19 .. 22

    private static void eventOf() {
        dueTaken("19: channel", 0, 2, v -> withOn(3).eventOf(v, 0, 0));
        dueTaken("19: event of one", 0, 0, v -> withOn(3).eventOf(0, v, 0));
        dueTaken("19: event of five", 0, 4, v -> withStates().eventOf(0, v, 0));
        dueTaken("19: what", 0, 3, v -> withOn(3).eventOf(0, 0, v));
        for (int e : new int[] {-1, 0, 1, LOW, HIGH}) due("19: of none", plain().eventOf(0, e, 0), BAD);
        BroadcastPlant x = withStates();
        int[][] rows = {{2, 2, 2, 0}, {3, 2, 9, 2}, {1, 2, 9, 4}, {4, 0, 9, NONE}, {0, 0, 9, NONE}};
        for (int e = 0; e < 5; e++) {
            dueRow("19: event " + e, new int[] {x.eventOf(0, e, 0), x.eventOf(0, e, 1), x.eventOf(0, e, 2), x.eventOf(0, e, 3)}, rows[e]);
        }
    }

    private static void source() {
        for (int f : new int[] {-1, 0, 1, LOW, HIGH}) due("20: nothing was run", plain().source(0, f, 0), BAD);
        dueTaken("20: channel", 0, 2, v -> ran(1).source(v, 0, 0));
        dueTaken("20: frame of one", 0, 0, v -> ran(1).source(0, v, 0));
        dueTaken("20: frame of nine", 0, 8, v -> ran(9).source(0, v, 0));
        dueTaken("20: frame of all", 0, 2999, v -> ran(3000).source(0, v, 0));
        dueTaken("20: what", 0, 4, v -> ran(1).source(0, 0, v));
        BroadcastPlant x = ran(1);
        dueRow("20: black", new int[] {x.source(0, 0, 0), x.source(0, 0, 1), x.source(0, 0, 2), x.source(0, 0, 3), x.source(0, 0, 4)},
            0, NONE, NONE, NONE, 0);
    }

    private static void rows() {
        dueTaken("21: channel", 0, 2, v -> plain().rows(v));
        BroadcastPlant x = plain();
        due("21: none", x.rows(0), 0);
        x.tick(1);
        due("21: one", x.rows(0), 1);
        x = new BroadcastPlant(12, 0);
        x.total(0);
        x.clip(1, 1);
        x.fill(0);
        run(x, 3000);
        due("21: as many as frames", x.rows(2), 3000);
        due("22: the last one's first frame", x.row(2, 2999, 0), 2999);
        due("22: it has one", x.row(2, 2999, 1), 1);
        due("22: there are no more", x.row(2, 3000, 0), BAD);
        due("22: the last one that is over", x.row(2, 2992, 2), 1);
        due("22: the first that is not", x.row(2, 2993, 2), 0);
    }

    private static void row() {
        for (int k : new int[] {-1, 0, 1, LOW, HIGH}) due("22: of none", plain().row(0, k, 0), BAD);
        dueTaken("22: channel", 0, 2, v -> ran(1).row(v, 0, 0));
        dueTaken("22: row of one", 0, 0, v -> ran(9).row(0, v, 0));
        dueTaken("22: row of three", 0, 2, v -> withStates().row(0, v, 0));
        dueTaken("22: what", 0, 2, v -> ran(1).row(0, 0, v));
        BroadcastPlant x = ran(3000);
        due("22: one row of all frames", x.row(0, 0, 1), 3000);
        due("22: those that are over", x.row(0, 0, 2), 2993);
    }

    // ---- 23 .. 25

    private static void unit() {
        for (int f : new int[] {-1, 0, 1, LOW, HIGH}) due("23: nothing was run", plain().unit(0, f, 0), BAD);
        dueTaken("23: channel", 0, 2, v -> ran(1).unit(v, 0, 0));
        dueTaken("23: frame of one", 0, 0, v -> ran(1).unit(0, v, 0));
        dueTaken("23: frame of nine", 0, 8, v -> ran(9).unit(0, v, 0));
        dueTaken("23: frame of all", 0, 2999, v -> ran(3000).unit(0, v, 0));
        dueTaken("23: what", 0, 4, v -> ran(1).unit(0, 0, v));
        BroadcastPlant x = small();
        x.service(0, false);
        x.tick(1);
        dueRow("23: none", new int[] {x.unit(0, 0, 0), x.unit(0, 0, 1), x.unit(0, 0, 2), x.unit(0, 0, 3), x.unit(0, 0, 4)}, 0, 0, 0, 0, NONE);
        due("23: the last packet of all with a unit", run(x, 2999).unit(1, 2999, 4), 35988);
    }

    private static void sent() {
        for (int n : new int[] {-1, 0, 1, LOW, HIGH}) due("24: nothing was sent", plain().sent(n, 0), NONE);
        for (int i : new int[] {-1, 188, LOW, HIGH}) due("24: bad ahead of none", plain().sent(0, i), BAD);
        dueTaken("24: byte", 0, 187, v -> ran(1).sent(0, v));
        BroadcastPlant x = new BroadcastPlant(32, 0);
        x.tick(8);
        due("24: 256 were sent, the first is kept", x.sent(0, 0), 71);
        due("24: the last", x.sent(255, 0), 71);
        due("24: none is behind it", x.sent(256, 0), NONE);
        due("24: none is ahead", x.sent(-1, 0), NONE);
        x.tick(1);
        due("24: 288 were sent, 31 is not kept", x.sent(31, 0), NONE);
        due("24: 32 is", x.sent(32, 0), 71);
        due("24: 287 is", x.sent(287, 187), 255);
        due("24: 288 is not sent", x.sent(288, 0), NONE);
        due("24: bad ahead of none", x.sent(288, 188), BAD);
        x = ran(3000);
        due("24: the last of all", x.sent(35999, 0), 71);
        due("24: there is none behind", x.sent(36000, 0), NONE);
        due("24: 256 of them", x.sent(35744, 0), 71);
        due("24: no more", x.sent(35743, 0), NONE);
    }

    private static void stored() {
        dueTaken("25: channel", 0, 2, v -> ran(1).stored(v));
        BroadcastPlant x = small();
        due("25: nothing was run", x.stored(0), 0);
        int[] bytes = {114, 228, 342, 456, 570, 684, 798, 912, 912, 912};
        for (int f = 0; f < bytes.length; f++) {
            x.tick(1);
            due("25: frame " + f, x.stored(0), bytes[f]);
        }
    }

    // ---- 26 .. 30

    private static void shown() {
        for (int f : new int[] {-1, 0, 1, LOW, HIGH}) due("26: none is over", run(prompt(), 7).shown(0, f, 0), BAD);
        dueTaken("26: channel", 0, 2, v -> run(prompt(), 8).shown(v, 0, 0));
        dueTaken("26: frame of one", 0, 0, v -> run(prompt(), 8).shown(0, v, 0));
        dueTaken("26: frame of nine", 0, 8, v -> run(prompt(), 16).shown(0, v, 0));
        dueTaken("26: frame of all", 0, 2992, v -> run(prompt(), 3000).shown(0, v, 0));
        dueTaken("26: what", 0, 2, v -> run(prompt(), 8).shown(0, 0, v));
        BroadcastPlant x = run(prompt(), 8);
        dueRow("26: black", new int[] {x.shown(0, 0, 0), x.shown(0, 0, 1), x.shown(0, 0, 2)}, 1, NONE, NONE);
    }

    private static void region() {
        for (int f : new int[] {-1, 0, 1, LOW, HIGH}) due("27: none is over", run(prompt(), 7).region(f, 0), BAD);
        dueTaken("27: frame of one", 0, 0, v -> run(prompt(), 8).region(v, 0));
        dueTaken("27: frame of nine", 0, 8, v -> run(prompt(), 16).region(v, 0));
        dueTaken("27: frame of all", 0, 2992, v -> run(prompt(), 3000).region(v, 0));
        dueTaken("27: what", 0, 1, v -> run(prompt(), 8).region(0, v));
        BroadcastPlant x = run(prompt(), 8);
        dueRow("27: channel 0", new int[] {x.region(0, 0), x.region(0, 1)}, 0, NONE);
    }

    /** BLACK is shown in all frames: one alarm begins with frame 9. */
    private static void alarm() {
        for (int k : new int[] {-1, 0, 1, LOW, HIGH}) due("28: none began", run(prompt(), 16).alarm(0, k, 0), BAD);
        dueTaken("28: channel", 0, 2, v -> run(prompt(), 17).alarm(v, 0, 0));
        dueTaken("28: alarm of one", 0, 0, v -> run(prompt(), 17).alarm(0, v, 0));
        dueTaken("28: what", 0, 2, v -> run(prompt(), 17).alarm(0, 0, v));
        BroadcastPlant x = run(prompt(), 17);
        dueRow("28: black", new int[] {x.alarm(0, 0, 0), x.alarm(0, 0, 1), x.alarm(0, 0, 2)}, 0, 9, NONE);
        dueTaken("28: alarm of two", 0, 1, v -> run(freezing(), 40).alarm(0, v, 0));
        x = run(freezing(), 40);
        dueRow("28: freeze", new int[] {x.alarm(0, 1, 0), x.alarm(0, 1, 1), x.alarm(0, 1, 2)}, 1, 17, 24);
    }

    /** Each piece of fill has six frames, and the unit of its second one is not right: five frames are frozen. */
    private static void manyAlarms() {
        BroadcastPlant x = new BroadcastPlant(12, 0);
        x.total(0);
        x.lines(1, 1);
        x.clip(6, 1);
        x.fill(0);
        for (int k = 0; k < 440; k++) {
            int f = 6 * k + 1;
            x.alter(12 * f + (f % 4 == 0 ? 4 : 0), 187, 1);
            if (k % 15 == 14) x.tick(90);
        }
        x.tick(42);
        due("28: frames", x.told(0), 29 * 90 + 42);
        due("28: how many", x.told(9), 440);
        for (int k : new int[] {0, 1, 438, 439}) {
            dueRow("28: alarm " + k, new int[] {x.alarm(0, k, 0), x.alarm(0, k, 1), x.alarm(0, k, 2)}, 1, 6 * k + 5, 6 * k + 6);
        }
        due("28: no more", x.alarm(0, 440, 0), BAD);
    }

    /** The unit of frame 13 is not right, so none is decoded up to the key of frame 24. */
    private static BroadcastPlant freezing() {
        BroadcastPlant x = prompt();
        x.alter(13 * 12, 187, 1);
        return x;
    }

    private static void faults() {
        dueTaken("29: number", 0, 8, v -> plain().faults(v));
        for (int i = 0; i <= 8; i++) due("29: none of " + i, run(prompt(), 30).faults(i), 0);
    }

    private static void told() {
        for (int v : new int[] {-1, 12, LOW, HIGH}) due("30: what, " + v, plain().told(v), BAD);
        BroadcastPlant x = run(prompt(), 17);
        int[] told = {17, 204, 204, 0, 0, NONE, NONE, 10, 0, 1, 1, 1};
        for (int i = 0; i < told.length; i++) due("30: " + i, x.told(i), told[i]);
        x = run(prompt(), 3000);
        int[] end = {3000, 36000, 36000, 0, 0, NONE, NONE, 2993, 0, 1, 1, 1};
        for (int i = 0; i < end.length; i++) due("30: at the end, " + i, x.told(i), end[i]);
    }
}
