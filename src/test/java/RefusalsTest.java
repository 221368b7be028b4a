import java.util.ArrayList;
import java.util.List;

/**
 * What is refused changes nothing: each refused call is made in the middle of a run, and what is asked behind it (of every
 * kind of question, thousands in a short run, hundreds in a long one) is compared with the run without it. No object has
 * more than 512 calls: the run is made anew for the next questions.
 */
public final class RefusalsTest extends Answers {
    private static final int MOST_CALLS = 512;
    private static final int P = 13;

    private interface Call {
        int on(BroadcastPlant x);
    }

    private record Refused(String what, int due, Call call) {
    }

    public static void main(String[] args) {
        new RefusalsTest(new ArrayList<>(), joined(setup(), end()), 0, 45).dueUnchanged("new", anywhere());
        RefusalsTest middle = new RefusalsTest(joined(setup(), pending()), end(), 0, 45);
        middle.dueUnchanged("in the middle", anywhere());
        middle.dueUnchanged("in the middle", inTheMiddle());
        new RefusalsTest(fullRows(), end(), 0, 45).dueUnchanged("full", atFullRows());
        new RefusalsTest(fullLosses(), end(), 0, 45).dueUnchanged("full", atFullLosses());
        new RefusalsTest(fullAlterations(), end(), 0, 45).dueUnchanged("full", atFullAlterations());
        new RefusalsTest(longest(), last(), 1990, 10).dueUnchanged("longest", atLongest());
        new RefusalsTest(ticks(2999), last(), 2990, 10).dueUnchanged("now is 2999", ahead());
        new RefusalsTest(ticks(3000), new ArrayList<>(), 2990, 10).dueUnchanged("now is 3000", behind());
        finish();
    }

    private final List<Call> before, after;
    private final List<Call> questions = new ArrayList<>();
    private final int[] due;

    /** The frames that are asked for are so many from the first one on. */
    private RefusalsTest(List<Call> before, List<Call> after, int first, int frames) {
        this.before = before;
        this.after = after;
        ask(first, first + frames);
        due = answers(null);
    }

    private void dueUnchanged(String state, List<Refused> refused) {
        for (Refused r : refused) dueRow(state + ", " + r.what + ": all answers behind it", answers(r), due);
    }

    private int[] answers(Refused refused) {
        int[] answers = new int[questions.size()];
        int asked = 0;
        while (asked < answers.length) {
            BroadcastPlant x = new BroadcastPlant(P, 77);
            for (Call c : before) c.on(x);
            if (refused != null && asked == 0) due(refused.what, refused.call.on(x), refused.due);
            else if (refused != null) refused.call.on(x);
            for (Call c : after) c.on(x);
            int end = Math.min(answers.length, asked + MOST_CALLS - before.size() - 1 - after.size());
            for (; asked < end; asked++) answers[asked] = questions.get(asked).on(x);
        }
        return answers;
    }

    private void ask(int first, int end) {
        for (int i = 0; i < 12; i++) ask1(i, (x, a) -> x.told(a));
        for (int i = 0; i < 9; i++) ask1(i, (x, a) -> x.faults(a));
        for (int c = 0; c < 3; c++) {
            ask1(c, (x, a) -> x.stored(a));
            ask1(c, (x, a) -> x.rows(a));
            for (int e = 0; e < 8; e++) for (int w = 0; w < 4; w++) ask3(c, e, w, (x, a, b, d) -> x.eventOf(a, b, d));
            for (int k = 0; k < 12; k++) for (int w = 0; w < 3; w++) ask3(c, k, w, (x, a, b, d) -> x.row(a, b, d));
            for (int k = 0; k < 3; k++) for (int w = 0; w < 3; w++) ask3(c, k, w, (x, a, b, d) -> x.alarm(a, b, d));
            for (int f = first; f < end; f++) {
                for (int w = 0; w < 5; w++) ask3(c, f, w, (x, a, b, d) -> x.source(a, b, d));
                for (int w = 0; w < 5; w++) ask3(c, f, w, (x, a, b, d) -> x.unit(a, b, d));
                for (int w = 0; w < 3; w++) ask3(c, f, w, (x, a, b, d) -> x.shown(a, b, d));
            }
        }
        for (int f = first; f < end; f++) for (int w = 0; w < 2; w++) ask3(f, w, 0, (x, a, b, d) -> x.region(a, b));
        for (int n = Math.max(first * P, end * P - 256); n < end * P; n++) {
            for (int i : new int[] {3, 30, 187}) ask3(n, i, 0, (x, a, b, d) -> x.sent(a, b));
        }
    }

    private interface One {
        int on(BroadcastPlant x, int a);
    }

    private interface Three {
        int on(BroadcastPlant x, int a, int b, int c);
    }

    private void ask1(int a, One question) {
        questions.add(x -> question.on(x, a));
    }

    private void ask3(int a, int b, int c, Three question) {
        questions.add(x -> question.on(x, a, b, c));
    }

    private static List<Call> joined(List<Call> first, List<Call> then) {
        List<Call> all = new ArrayList<>(first);
        all.addAll(then);
        return all;
    }

    // ---- the runs

    /** Nine frames: channel 0 has an event on, the others have fill; 117 packets are sent, 17 of them of block 5. */
    private static List<Call> setup() {
        return new ArrayList<>(List.of(
            x -> x.clip(30, 10), x -> x.clip(4, 3), x -> x.clip(7, 50), x -> x.fill(1), x -> x.fill(2), x -> x.local(3), x -> x.local(4),
            x -> x.event(0, BREAK, 0, 0, 6), x -> x.event(0, FOLLOW, 0, 2, 12), x -> x.event(0, FIXED, 25, 0, 5),
            x -> x.event(0, MANUAL, 0, 0, 5), x -> x.event(1, MANUAL, 0, 1, 5), x -> x.event(1, FOLLOW, 0, 2, 8),
            x -> x.event(2, FOLLOW, 0, 0, 3), x -> x.event(2, FIXED, 14, 1, 30),
            x -> x.set(1, 50, 900, 30), x -> x.buffer(2, 1500), x -> x.total(1700), x -> x.tick(9)));
    }

    private static List<Call> pending() {
        return List.of(x -> x.take(1), x -> x.hold(2, true), x -> x.fail(0, 0, 2), x -> x.service(2, false), x -> x.lines(4, 3),
            x -> x.lose(0, 130), x -> x.lose(2, 6), x -> x.alter(140, 20, 7), x -> x.skip(0, 3));
    }

    private static List<Call> end() {
        return List.of(x -> x.tick(4), x -> x.service(2, true), x -> x.fill(0), x -> x.tick(32));
    }

    private static List<Call> fullRows() {
        List<Call> calls = new ArrayList<>();
        for (int i = 0; i < 16; i++) {
            int length = 3 + i;
            calls.add(x -> x.clip(length, length));
        }
        for (int i = 0; i < 6; i++) {
            int number = i;
            calls.add(x -> x.fill(number));
            calls.add(x -> x.local(5 + number));
        }
        for (int i = 0; i < 60; i++) calls.add(x -> x.event(1, BREAK, 0, 7, 4));
        calls.add(x -> x.event(0, FIXED, 2, 7, 5));
        calls.add(x -> x.event(0, FIXED, 20, 7, 5));
        calls.add(x -> x.event(0, BREAK, 0, 7, 5));
        calls.add(x -> x.tick(9));
        return calls;
    }

    private static List<Call> fullLosses() {
        List<Call> calls = new ArrayList<>(List.of(x -> x.clip(3, 3), x -> x.tick(9)));
        for (int i = 0; i < 200; i++) {
            int n = 117 + i % 40;
            calls.add(x -> x.lose(0, n));
        }
        for (int i = 0; i < 100; i++) {
            int n = 5 + i % 20;
            calls.add(x -> x.lose(1 + n % 9, n));
        }
        return calls;
    }

    private static List<Call> fullAlterations() {
        List<Call> calls = new ArrayList<>(List.of(x -> x.clip(3, 3), x -> x.tick(9)));
        for (int i = 0; i < 300; i++) {
            int n = 117 + i, byteOf = i % 188;
            calls.add(x -> x.alter(n, byteOf, 1));
        }
        return calls;
    }

    /** An event of the greatest length is on, and then one frame before its end. */
    private static List<Call> longest() {
        List<Call> calls = new ArrayList<>(List.of(x -> x.clip(30, 10), x -> x.event(0, FOLLOW, 0, 0, 1000), x -> x.tick(1),
            x -> x.overrun(0, 1000)));
        for (int i = 0; i < 19; i++) calls.add(x -> x.tick(100));
        calls.add(x -> x.tick(98));
        return calls;
    }

    private static List<Call> ticks(int frames) {
        List<Call> calls = new ArrayList<>(List.of(x -> x.clip(30, 10), x -> x.fill(0), x -> x.event(0, MANUAL, 0, 0, 3), x -> x.take(0)));
        for (int i = 0; i < 29; i++) calls.add(x -> x.tick(100));
        calls.add(x -> x.tick(frames - 2900));
        return calls;
    }

    private static List<Call> last() {
        return List.of(x -> x.tick(1));
    }

    // ---- what is refused

    private static void add(List<Refused> to, String what, int due, Call call) {
        to.add(new Refused(what, due, call));
    }

    private static void event(List<Refused> to, int due, int channel, int kind, int at, int clip, int length) {
        add(to, "event " + channel + " " + kind + " " + at + " " + clip + " " + length, due, x -> x.event(channel, kind, at, clip, length));
    }

    /** What is refused whatever was told before. */
    private static List<Refused> anywhere() {
        List<Refused> all = new ArrayList<>();
        clipsAndEvents(all);
        channels(all);
        for (int v : new int[] {0, -1, 101, LOW, HIGH}) add(all, "tick " + v, BAD, x -> x.tick(v));
        for (int v : new int[] {-1, 9001, LOW, HIGH}) add(all, "total " + v, BAD, x -> x.total(v));
        for (int v : new int[] {0, 9, LOW, HIGH}) {
            add(all, "columns " + v, BAD, x -> x.lines(v, 1));
            add(all, "lines " + v, BAD, x -> x.lines(1, v));
        }
        for (int v : new int[] {-1, 17, LOW, HIGH}) add(all, "lose, kind " + v, BAD, x -> x.lose(v, 150));
        for (int v : new int[] {-1, 3000 * P, LOW, HIGH}) {
            add(all, "lose packet " + v, BAD, x -> x.lose(0, v));
            add(all, "alter packet " + v, BAD, x -> x.alter(v, 0, 1));
        }
        for (int v : new int[] {-1, 200001, LOW, HIGH}) for (int kind : new int[] {1, 16}) add(all, "lose of block " + v, BAD, x -> x.lose(kind, v));
        for (int v : new int[] {-1, 188, LOW, HIGH}) add(all, "alter byte " + v, BAD, x -> x.alter(150, v, 1));
        for (int v : new int[] {0, -1, 256, LOW, HIGH}) add(all, "alter by " + v, BAD, x -> x.alter(150, 0, v));
        questions(all);
        return all;
    }

    private static void clipsAndEvents(List<Refused> all) {
        for (int v : new int[] {0, -1, 1001, LOW, HIGH}) {
            add(all, "clip of " + v, BAD, x -> x.clip(v, 5));
            add(all, "local " + v, BAD, x -> x.local(v));
        }
        for (int v : new int[] {0, -1, 101, LOW, HIGH}) add(all, "clip, effort " + v, BAD, x -> x.clip(5, v));
        for (int v : new int[] {-1, 16, LOW, HIGH}) add(all, "fill " + v, BAD, x -> x.fill(v));
        for (int v : new int[] {-1, 4, LOW, HIGH}) event(all, BAD, 0, v, 0, 0, 5);
        for (int v : new int[] {-1, 16, LOW, HIGH}) event(all, BAD, 0, FOLLOW, 0, v, 5);
        for (int v : new int[] {0, -1, 1001, LOW, HIGH}) event(all, BAD, 0, FOLLOW, 0, 0, v);
        for (int v : new int[] {-1, 3000, LOW, HIGH}) event(all, BAD, 0, FIXED, v, 0, 5);
        for (int kind : new int[] {FOLLOW, MANUAL, BREAK}) for (int v : new int[] {-1, 1, 30, LOW, HIGH}) event(all, BAD, 0, kind, v, 0, 5);
    }

    private static void channels(List<Refused> all) {
        for (int v : new int[] {-1, 3, LOW, HIGH}) {
            event(all, BAD, v, FOLLOW, 0, 0, 5);
            add(all, "skip, channel " + v, BAD, x -> x.skip(v, 1));
            add(all, "take, channel " + v, BAD, x -> x.take(v));
            add(all, "hold, channel " + v, BAD, x -> x.hold(v, true));
            add(all, "overrun, channel " + v, BAD, x -> x.overrun(v, 5));
            add(all, "fail, channel " + v, BAD, x -> x.fail(v, 0, 5));
            add(all, "set, channel " + v, BAD, x -> x.set(v, 16, 16, 1));
            add(all, "buffer, channel " + v, BAD, x -> x.buffer(v, 1000));
            add(all, "service, channel " + v, BAD, x -> x.service(v, false));
        }
        for (int v : new int[] {-1, 60, LOW, HIGH}) add(all, "skip event " + v, BAD, x -> x.skip(0, v));
        for (int v : new int[] {0, -1, 1001, LOW, HIGH}) {
            add(all, "overrun by " + v, BAD, x -> x.overrun(0, v));
            add(all, "fail in " + v, BAD, x -> x.fail(0, 0, v));
        }
        for (int v : new int[] {-1, 2, LOW, HIGH}) add(all, "fail, player " + v, BAD, x -> x.fail(0, v, 5));
        for (int v : new int[] {15, 1001, LOW, HIGH}) add(all, "set, least " + v, BAD, x -> x.set(0, v, 3000, 5));
        for (int v : new int[] {499, 3001, LOW, HIGH}) add(all, "set, greatest " + v, BAD, x -> x.set(0, 500, v, 5));
        for (int v : new int[] {0, 101, LOW, HIGH}) add(all, "set, weight " + v, BAD, x -> x.set(0, 500, 500, v));
        for (int v : new int[] {999, 20001, LOW, HIGH}) add(all, "buffer of " + v, BAD, x -> x.buffer(0, v));
    }

    private static void questions(List<Refused> all) {
        for (int v : new int[] {-1, 12, LOW, HIGH}) add(all, "told " + v, BAD, x -> x.told(v));
        for (int v : new int[] {-1, 9, LOW, HIGH}) add(all, "faults " + v, BAD, x -> x.faults(v));
        for (int v : new int[] {-1, 3, LOW, HIGH}) {
            add(all, "eventOf, channel " + v, BAD, x -> x.eventOf(v, 0, 0));
            add(all, "source, channel " + v, BAD, x -> x.source(v, 0, 0));
            add(all, "rows, channel " + v, BAD, x -> x.rows(v));
            add(all, "row, channel " + v, BAD, x -> x.row(v, 0, 0));
            add(all, "unit, channel " + v, BAD, x -> x.unit(v, 0, 0));
            add(all, "stored, channel " + v, BAD, x -> x.stored(v));
            add(all, "shown, channel " + v, BAD, x -> x.shown(v, 0, 0));
            add(all, "alarm, channel " + v, BAD, x -> x.alarm(v, 0, 0));
            add(all, "region, what " + v, BAD, x -> x.region(0, v));
        }
        for (int v : new int[] {-1, 188, LOW, HIGH}) add(all, "sent, byte " + v, BAD, x -> x.sent(0, v));
        for (int v : new int[] {-1, 3000 * P, LOW, HIGH}) add(all, "sent, packet " + v, NONE, x -> x.sent(v, 0));
    }

    private static List<Refused> inTheMiddle() {
        List<Refused> all = new ArrayList<>();
        add(all, "a clip that is not", BAD, x -> x.fill(3));
        event(all, BAD, 0, FOLLOW, 0, 3, 5);
        event(all, BAD, 1, FIXED, 8, 0, 5);
        event(all, BAD, 0, FIXED, 24, 0, 5);
        event(all, BAD, 0, FIXED, 25, 0, 5);
        event(all, BAD, 2, FIXED, 14, 0, 5);
        for (int v : new int[] {0, 1, 3, 4}) add(all, "skip what is ended, on, skipped, none: " + v, BAD, x -> x.skip(0, v));
        add(all, "skip what is ended", BAD, x -> x.skip(2, 0));
        for (int c = 1; c < 3; c++) {
            int channel = c;
            add(all, "overrun with none on", BAD, x -> x.overrun(channel, 1));
        }
        add(all, "lose a packet that was sent", BAD, x -> x.lose(0, 116));
        add(all, "lose of a block that was sent", BAD, x -> x.lose(1, 4));
        add(all, "alter a packet that was sent", BAD, x -> x.alter(116, 0, 1));
        add(all, "a frame that was not run", BAD, x -> x.source(0, 9, 0));
        add(all, "a unit that was not made", BAD, x -> x.unit(0, 9, 0));
        add(all, "a frame that is not over", BAD, x -> x.shown(0, 1, 0));
        add(all, "a frame that is not over", BAD, x -> x.region(1, 0));
        add(all, "an alarm that is not", BAD, x -> x.alarm(0, 0, 0));
        return all;
    }

    private static List<Refused> atFullRows() {
        List<Refused> all = new ArrayList<>();
        add(all, "clip", FULL, x -> x.clip(1, 100));
        add(all, "fill", FULL, x -> x.fill(15));
        add(all, "local", FULL, x -> x.local(1));
        for (int kind = 0; kind < 4; kind++) event(all, FULL, 1, kind, kind == FIXED ? 10 : 0, 0, 5);
        event(all, BAD, 1, FIXED, 8, 0, 5);
        add(all, "bad clip", BAD, x -> x.clip(0, 100));
        add(all, "bad fill", BAD, x -> x.fill(16));
        add(all, "bad local", BAD, x -> x.local(0));
        return all;
    }

    private static List<Refused> atFullLosses() {
        List<Refused> all = new ArrayList<>();
        for (int n : new int[] {117, 118, 200, 3000 * P - 1}) add(all, "lose packet " + n, FULL, x -> x.lose(0, n));
        for (int n : new int[] {5, 6, 30, 200000}) for (int kind : new int[] {1, 9, 16}) add(all, "lose of block " + n, FULL, x -> x.lose(kind, n));
        add(all, "bad packet", BAD, x -> x.lose(0, 116));
        add(all, "bad block", BAD, x -> x.lose(1, 4));
        return all;
    }

    private static List<Refused> atFullAlterations() {
        List<Refused> all = new ArrayList<>();
        for (int n : new int[] {117, 118, 200, 3000 * P - 1}) add(all, "alter packet " + n, FULL, x -> x.alter(n, 0, 1));
        add(all, "bad packet", BAD, x -> x.alter(116, 0, 1));
        add(all, "bad byte", BAD, x -> x.alter(117, 188, 1));
        add(all, "bad mask", BAD, x -> x.alter(117, 0, 256));
        return all;
    }

    private static List<Refused> atLongest() {
        List<Refused> all = new ArrayList<>();
        for (int n : new int[] {1, 2, 1000}) add(all, "overrun by " + n, BAD, x -> x.overrun(0, n));
        return all;
    }

    private static List<Refused> ahead() {
        List<Refused> all = new ArrayList<>();
        for (int n : new int[] {2, 3, 100}) add(all, "tick " + n, FULL, x -> x.tick(n));
        for (int n : new int[] {0, 101}) add(all, "tick " + n, BAD, x -> x.tick(n));
        event(all, BAD, 1, FIXED, 2998, 0, 5);
        return all;
    }

    private static List<Refused> behind() {
        List<Refused> all = new ArrayList<>();
        for (int n : new int[] {1, 2, 100}) add(all, "tick " + n, FULL, x -> x.tick(n));
        for (int n : new int[] {0, 101}) add(all, "tick " + n, BAD, x -> x.tick(n));
        event(all, BAD, 1, FIXED, 2999, 0, 5);
        add(all, "lose", BAD, x -> x.lose(0, 3000 * P - 1));
        add(all, "alter", BAD, x -> x.alter(3000 * P - 1, 0, 1));
        return all;
    }
}
