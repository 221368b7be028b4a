import java.lang.reflect.Method;
import java.util.ArrayList;
import java.util.Arrays;
import java.util.HashMap;
import java.util.List;
import java.util.Map;
import java.util.Random;

/**
 * Random runs, with packets forged so that their checks are right, on the class and on the model: every answer
 * is compared. Arguments: how many runs, the first seed.
 */
public final class RandomRunsTest {
    private static final String[] ASKED = {"eventOf", "source", "rows", "row", "unit", "sent", "stored", "shown", "region",
        "alarm", "faults", "told"};
    private static final Map<String, Method> PLANT = methods(BroadcastPlant.class), MODEL = methods(Model.class);

    record Call(String name, int... args) {
    }

    private static int wrong;
    private static final Map<String, Integer> seen = new HashMap<>();

    private static Map<String, Method> methods(Class<?> of) {
        Map<String, Method> methods = new HashMap<>();
        for (Method m : of.getDeclaredMethods()) {
            if (m.getReturnType() != int.class || m.isSynthetic()) continue;
            boolean plain = true;
            for (Class<?> c : m.getParameterTypes()) if (c != int.class && c != boolean.class) plain = false;
            if (plain) methods.put(m.getName(), m);
        }
        return methods;
    }

    private static int answer(Object on, Method m, int[] args) {
        Object[] given = new Object[args.length];
        for (int i = 0; i < args.length; i++) {
            if (m.getParameterTypes()[i] == boolean.class) given[i] = args[i] != 0;
            else given[i] = args[i];
        }
        try {
            return (int) m.invoke(on, given);
        } catch (ReflectiveOperationException e) {
            throw new IllegalStateException(m.getName() + Arrays.toString(args), e);
        }
    }

    public static void main(String[] args) {
        int runs = args.length > 0 ? Integer.parseInt(args[0]) : 60;
        int first = args.length > 1 ? Integer.parseInt(args[1]) : 1;
        for (int seed = first; seed < first + runs && wrong == 0; seed++) new RandomRunsTest(seed).run();
        System.out.println(runs + " random runs from seed " + first + ", " + wrong + " wrong answers; seen " + new java.util.TreeMap<>(seen));
        if (wrong != 0) System.exit(1);
    }

    private final int seed;
    private final Random random;
    private final int packets, begin;
    private BroadcastPlant plant;
    private Model model;
    private Model scout;
    private final List<Call> made = new ArrayList<>();

    private RandomRunsTest(int seed) {
        this.seed = seed;
        random = new Random(seed);
        packets = random.nextInt(6) == 0 ? random.nextInt(60) - 5 : 12 + random.nextInt(29);
        begin = random.nextInt(3) == 0 ? -random.nextInt(2000000) : random.nextInt();
    }

    private int upTo(int least, int greatest) {
        return least + random.nextInt(greatest - least + 1);
    }

    private int edge(int least, int greatest) {
        int[] edges = {least - 1, least, greatest, greatest + 1, Integer.MIN_VALUE, Integer.MAX_VALUE};
        return random.nextInt(60) == 0 ? edges[random.nextInt(edges.length)] : upTo(least, greatest);
    }

    private void run() {
        List<Call> calls = senderCalls();
        scout = new Model(packets, begin);
        for (Call c : calls) answer(scout, MODEL.get(c.name), c.args);
        plant = new BroadcastPlant(packets, begin);
        model = new Model(packets, begin);
        for (Call c : calls) {
            if (c.name.equals("tick") && c.args[0] >= 1 && c.args[0] <= 100) disturb(c.args[0]);
            compare(c);
            for (int i = random.nextInt(4); i > 0; i--) compare(question());
            if (wrong != 0) return;
        }
        compareAll();
        for (int k = 1; k <= 8; k++) seen.merge("fault " + k, model.faults(k), Integer::sum);
        seen.merge("frames over", model.over, Integer::sum);
        seen.merge("mended", model.mended, Integer::sum);
        for (int[] r : model.region) if (r[0] > 0) seen.merge("local frames", 1, Integer::sum);
        for (Model.Channel c : model.channels) {
            seen.merge("alarms", c.alarms.size(), Integer::sum);
            for (Model.Unit u : c.units.values()) seen.merge("units " + u.state, 1, Integer::sum);
            for (Model.Event e : c.events) seen.merge("events " + e.state, 1, Integer::sum);
        }
    }

    private void compare(Call c) {
        made.add(c);
        int due = answer(model, MODEL.get(c.name), c.args);
        int got = answer(plant, PLANT.get(c.name), c.args);
        if (due == got) return;
        wrong++;
        System.out.println("seed " + seed + ": new BroadcastPlant(" + packets + ", " + begin + "), call " + made.size() + ": "
            + c.name + Arrays.toString(c.args) + " answered " + got + ", due is " + due);
    }

    // ---- the calls that change what is sent

    private List<Call> senderCalls() {
        List<Call> calls = new ArrayList<>();
        boolean tight = random.nextBoolean();
        for (int i = upTo(1, 8); i > 0; i--) {
            calls.add(new Call("clip", random.nextInt(4) > 0 ? upTo(1, 30) : edge(1, 1000), edge(1, 100)));
        }
        for (int i = random.nextInt(7); i > 0; i--) calls.add(new Call("fill", random.nextInt(8)));
        for (int i = random.nextInt(8); i > 0; i--) calls.add(new Call("local", upTo(1, 12)));
        for (int c = 0; c < 3 && tight; c++) {
            int least = upTo(16, 60);
            calls.add(new Call("set", c, least, upTo(least, 400), upTo(1, 100)));
        }
        for (int i = random.nextInt(25); i > 0; i--) {
            calls.add(new Call("event", upTo(0, 2), new int[] {0, 0, 2, 3}[upTo(0, 3)], 0, 0, upTo(1, 20)));
        }
        int now = 0;
        int end = random.nextInt(40) == 0 ? 3000 : upTo(20, 220);
        while (now < end) {
            for (int i = random.nextInt(6); i > 0; i--) calls.add(senderCall(now));
            int n = Math.min(random.nextInt(8) == 0 ? upTo(1, 100) : upTo(1, end > 1000 ? 90 : 12), 3000 - now);
            calls.add(new Call("tick", n));
            now += n;
            if (random.nextInt(30) == 0) calls.add(new Call("tick", edge(101, 110)));
        }
        if (now == 3000) calls.add(new Call("tick", 1));
        return calls;
    }

    private Call senderCall(int now) {
        int c = edge(0, 2);
        switch (random.nextInt(18)) {
            case 0: return new Call("clip", edge(1, 1000), edge(1, 100));
            case 1: return new Call("fill", edge(0, 5));
            case 2: return new Call("local", edge(1, 1000));
            case 3: case 4: case 5: return new Call("event", c, upTo(0, 3), 0, edge(0, 5), upTo(1, 25));
            case 6: case 7: return new Call("event", c, 1, now + upTo(-1, 40), edge(0, 5), upTo(1, 40));
            case 8: return new Call("event", c, edge(0, 3), edge(0, 2999), edge(0, 5), edge(1, 1000));
            case 9: return new Call("skip", c, edge(0, 12));
            case 10: return new Call("take", c);
            case 11: return new Call("hold", c, random.nextInt(3) == 0 ? 1 : 0);
            case 12: return new Call("overrun", c, random.nextBoolean() ? upTo(1, 20) : edge(1, 1000));
            case 13: return new Call("fail", c, edge(0, 1), random.nextBoolean() ? upTo(1, 20) : edge(1, 1000));
            case 14: return random.nextInt(3) > 0 ? new Call("set", c, upTo(16, 200), edge(200, 3000), edge(1, 100))
                : new Call("set", c, edge(16, 1000), edge(16, 3000), edge(1, 100));
            case 15: return new Call("buffer", c, edge(1000, random.nextBoolean() ? 3000 : 20000));
            case 16: return new Call("total", edge(0, random.nextBoolean() ? 1500 : 9000));
            default: return new Call("service", c, random.nextBoolean() ? 1 : 0);
        }
    }

    // ---- the calls that change what comes

    private void disturb(int frames) {
        int from = model.sent.size(), to = Math.min(scout.sent.size(), from + frames * model.p) - 1;
        if (random.nextInt(4) == 0) compare(new Call("lines", edge(1, 8), edge(1, 8)));
        if (to < from || random.nextInt(3) == 0) return;
        for (int i = random.nextInt(5); i > 0; i--) {
            int n = upTo(from, to);
            switch (random.nextInt(12)) {
                case 0: compare(new Call("alter", edge(from, 3000 * model.p - 1), edge(0, 187), edge(1, 255))); break;
                case 1: compare(new Call("alter", n, upTo(0, 13), upTo(1, 255))); break;
                case 2: compare(new Call("alter", n, upTo(0, 13), 1 << upTo(0, 7))); break;
                case 3: case 4: loseSome(n); break;
                case 5: compare(new Call("lose", edge(1, 16), model.blocks + upTo(-1, 3))); break;
                case 6: compare(new Call("lose", edge(0, 16), edge(0, 200000))); break;
                case 7: forgeNull(n, to); break;
                case 8: forgeTable(n, to); break;
                case 9: forgeClock(n, to); break;
                default: forgeUnit(n, to); break;
            }
        }
    }

    private void loseSome(int n) {
        int count = random.nextInt(6) == 0 ? upTo(1, 120) : upTo(1, 6);
        int step = random.nextInt(3) == 0 ? upTo(1, 8) : 1;
        for (int i = 0; i < count; i++) compare(new Call("lose", 0, n + i * step));
        for (int i = random.nextInt(3); i > 0; i--) compare(new Call("lose", upTo(1, 12), model.blocks + random.nextInt(2)));
    }

    private static int pidOf(int[] b) {
        return (b[1] & 31) * 256 + b[2];
    }

    /** The next packet from n on (to at most) whose PID is in least .. greatest; or none. */
    private int find(int n, int to, int least, int greatest) {
        for (int i = n; i <= to; i++) {
            int pid = pidOf(scout.sent.get(i));
            if (pid >= least && pid <= greatest) return i;
        }
        return -1;
    }

    /** Alters packet n so that it comes with these bytes (if nothing else is told of it). */
    private void replace(int n, int[] bytes) {
        for (int i = 0; i < 188; i++) {
            int mask = bytes[i] ^ scout.sent.get(n)[i];
            if (mask != 0) compare(new Call("alter", n, i, mask));
        }
    }

    private void putCheck(int[] bytes, int from, int end) {
        List<Integer> checked = new ArrayList<>();
        for (int i = from; i < end; i++) checked.add(bytes[i]);
        long check = Model.check(checked);
        for (int i = 0; i < 4; i++) bytes[end + i] = (int) (check >> 24 - 8 * i & 255);
    }

    private int anyPid() {
        int[] some = {0, 256, 257, 272, 273, 288, 289, 8191, 4000};
        return random.nextInt(5) == 0 ? random.nextInt(8192) : some[random.nextInt(some.length)];
    }

    private void putPid(int[] bytes, int at, int pid) {
        bytes[at] = bytes[at] & 224 | pid >> 8;
        bytes[at + 1] = pid & 255;
    }

    /** A packet of nothing becomes one of another PID, or a list or a table of wishes. */
    private void forgeNull(int n, int to) {
        int at = find(n, to, 8191, 8191);
        if (at < 0) return;
        int[] b = scout.sent.get(at).clone();
        int kind = random.nextInt(4);
        putPid(b, 1, kind == 0 ? 0 : anyPid());
        b[3] = b[3] & 240 | random.nextInt(16);
        if (kind == 0) {
            b[1] |= 64;
            int count = random.nextInt(5);
            int[] head = {0, 0, 176, 9 + 4 * count, 0, 1, 193, 0, 0};
            System.arraycopy(head, 0, b, 4, 9);
            for (int i = 0; i < count; i++) {
                b[13 + 4 * i] = 0;
                b[14 + 4 * i] = random.nextInt(5);
                putPid(b, 15 + 4 * i, random.nextBoolean() ? 256 + 16 * random.nextInt(3) : anyPid());
            }
            putCheck(b, 5, 13 + 4 * count);
        } else if (kind == 1) {
            b[3] = b[3] & 15 | random.nextInt(4) << 4;
            b[4] = upTo(0, 184);
            b[5] = random.nextInt(2) * 16;
        } else if (kind == 2) {
            b[1] |= 64;
            for (int i = 0; i < 4; i++) b[4 + i] = new int[] {0, 0, 1, 224}[i];
            b[8] = random.nextInt(13);
            b[9] = random.nextInt(256);
        }
        replace(at, b);
    }

    private void forgeTable(int n, int to) {
        int at = find(n, to, 0, 0);
        if (at < 0) return;
        if (random.nextBoolean() && at + 1 <= to && pidOf(scout.sent.get(at + 1)) % 16 == 0) at += upTo(1, 3);
        if (at > to || pidOf(scout.sent.get(at)) % 16 != 0) return;
        int[] b = scout.sent.get(at).clone();
        int end = 5 + 3 + b[7] - 4;
        boolean list = pidOf(b) == 0;
        switch (random.nextInt(8)) {
            case 0: b[4] ^= 1; break;
            case 1: b[5] ^= 1 << random.nextInt(8); break;
            case 2: b[1] ^= 64; break;
            case 3: b[upTo(6, end - 1)] ^= 1 << random.nextInt(8); break;
            case 4: b[7] = random.nextInt(190); break;
            case 5: case 6: if (list && end > 13) putPid(b, 15 + 4 * random.nextInt((end - 13) / 4), anyPid());
                else if (!list) putPid(b, 18, anyPid());
                break;
            default: if (list && end > 13) b[14 + 4 * random.nextInt((end - 13) / 4)] = random.nextInt(5);
                else if (!list) b[9] = random.nextInt(5);
        }
        if (random.nextInt(6) > 0) putCheck(b, 5, Math.max(5, Math.min(184, 4 + b[7])));
        replace(at, b);
    }

    private void forgeClock(int n, int to) {
        int at = find(n, to, 257, 289);
        if (at < 0 || (scout.sent.get(at)[3] & 32) == 0) return;
        int i = upTo(4, 12);
        compare(new Call("alter", at, i, random.nextBoolean() ? 16 : upTo(1, 255)));
    }

    /** Alters fields of a unit that is sent whole from n on, and mends its check. */
    private void forgeUnit(int n, int to) {
        int at = n;
        while (at <= to && (pidOf(scout.sent.get(at)) % 16 != 1 || pidOf(scout.sent.get(at)) > 289 || (scout.sent.get(at)[1] & 64) == 0)) at++;
        if (at > to) return;
        List<int[]> places = new ArrayList<>();
        int pid = pidOf(scout.sent.get(at)), whole = 0;
        for (int i = at; i <= to && (whole == 0 || places.size() < whole); i++) {
            int[] b = scout.sent.get(i);
            if (pidOf(b) != pid || (b[3] & 16) == 0) continue;
            for (int k = (b[3] & 32) != 0 ? 5 + b[4] : 4; k < 188; k++) places.add(new int[] {i, k, b[k]});
            if (whole == 0) whole = 6 + places.get(4)[2] * 256 + places.get(5)[2];
        }
        if (whole == 0 || places.size() != whole) return;
        int[] bytes = new int[whole];
        for (int i = 0; i < whole; i++) bytes[i] = places.get(i)[2];
        for (int i = random.nextInt(3); i >= 0; i--) forgeField(bytes);
        List<Integer> checked = new ArrayList<>();
        for (int i = 18; i < whole; i++) checked.add(bytes[i]);
        long check = Model.check(checked);
        for (int i = 0; i < 4 && random.nextInt(20) > 0; i++) bytes[14 + i] = (int) (check >> 24 - 8 * i & 255);
        for (int i = 0; i < whole; i++) {
            if (bytes[i] != places.get(i)[2]) compare(new Call("alter", places.get(i)[0], places.get(i)[1], bytes[i] ^ places.get(i)[2]));
        }
    }

    private void forgeField(int[] b) {
        switch (random.nextInt(12)) {
            case 0: b[upTo(0, 13)] ^= 1 << random.nextInt(8); break;
            case 1: b[20] = random.nextInt(19); break;
            case 2: b[21] = random.nextInt(256); b[22] = random.nextInt(256); break;
            case 3: b[23] = random.nextInt(4); break;
            case 4: b[23] = 2; b[24] = 0; b[25] = random.nextInt(40); break;
            case 5: b[24] = random.nextInt(256); b[25] = random.nextInt(256); b[23] = 2; break;
            case 6: b[19] ^= 1 << random.nextInt(2); break;
            case 7: case 8: case 9: moveFrame(b, upTo(-3, 12)); break;
            case 10: b[4 + random.nextInt(2)] ^= 1 << random.nextInt(8); break;
            default: b[24] = 0; b[25] = 0;
        }
    }

    /** The unit says that it is of another frame. */
    private void moveFrame(int[] b, int by) {
        int frame = b[18] * 256 + b[19] + by;
        if (frame < 0 && random.nextBoolean()) frame = random.nextInt(3100);
        long s = Math.floorMod(model.begin + 3600L * (frame + 8), 1L << 33);
        if (random.nextInt(10) == 0) s = (s + 1) % (1L << 33);
        b[18] = frame >> 8 & 255;
        b[19] = frame & 255;
        b[9] = 33 + 2 * (int) (s >> 30);
        b[10] = (int) (s >> 22 & 255);
        b[11] = 1 + 2 * (int) (s >> 15 & 127);
        b[12] = (int) (s >> 7 & 255);
        b[13] = 1 + 2 * (int) (s & 127);
    }

    // ---- the questions

    private Call question() {
        int c = edge(0, 2), f = edge(0, Math.max(0, model.now - 1)), over = edge(0, Math.max(0, model.over - 1));
        switch (ASKED[random.nextInt(ASKED.length)]) {
            case "eventOf": return new Call("eventOf", c, edge(0, 5), edge(0, 3));
            case "source": return new Call("source", c, f, edge(0, 4));
            case "rows": return new Call("rows", c);
            case "row": return new Call("row", c, edge(0, 4), edge(0, 2));
            case "unit": return new Call("unit", c, f, edge(0, 4));
            case "sent": return new Call("sent", model.sent.size() - edge(1, 256), edge(0, 187));
            case "stored": return new Call("stored", c);
            case "shown": return new Call("shown", c, over, edge(0, 2));
            case "region": return new Call("region", over, edge(0, 1));
            case "alarm": return new Call("alarm", c, edge(0, 1), edge(0, 2));
            case "faults": return new Call("faults", edge(0, 8));
            default: return new Call("told", edge(0, 11));
        }
    }

    private void compareAll() {
        for (int what = -1; what <= 12; what++) compare(new Call("told", what));
        for (int k = -1; k <= 9; k++) compare(new Call("faults", k));
        for (int c = 0; c < 3; c++) {
            compare(new Call("stored", c));
            compare(new Call("rows", c));
            for (int e = -1; e <= model.channels[c].events.size(); e++) {
                for (int what = 0; what < 4; what++) compare(new Call("eventOf", c, e, what));
            }
            int rows = model.rows(c);
            for (int k = -1; k <= rows; k++) {
                if (rows > 100 && k > 50 && k < rows - 50) continue;
                for (int what = 0; what < 3; what++) compare(new Call("row", c, k, what));
            }
            for (int k = -1; k <= model.channels[c].alarms.size(); k++) {
                for (int what = 0; what < 3; what++) compare(new Call("alarm", c, k, what));
            }
            for (int f = -1; f <= model.now; f++) {
                for (int what = 0; what < 5; what++) {
                    compare(new Call("source", c, f, what));
                    compare(new Call("unit", c, f, what));
                }
                for (int what = 0; what < 3; what++) compare(new Call("shown", c, f, what));
                for (int what = 0; what < 2; what++) compare(new Call("region", f, what));
            }
        }
        for (int n = model.sent.size() - 258; n <= model.sent.size(); n++) {
            for (int i = 0; i < 188; i++) compare(new Call("sent", n, i));
        }
    }
}
