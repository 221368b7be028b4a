import java.util.ArrayList;
import java.util.HashMap;
import java.util.HashSet;
import java.util.List;
import java.util.Map;
import java.util.Set;
import java.util.TreeMap;

/** The document read a second time, in the plainest and slowest way, for random runs to be compared with. */
final class Model {
    static final int NONE = -1, BAD = -2, FULL = -3;

    static final class Event {
        int kind, at, clip, length, state, had, first = NONE;
    }

    static final class Given {
        int what, number = NONE, clip = NONE, frame = NONE, player, left;
        boolean beginsRow;
    }

    static final class Unit {
        int frame, state = 1, size, key, left, last = NONE;
        long value;
        List<Integer> bytes = new ArrayList<>();
        int sent;
        boolean counts = true;
    }

    static final class Decoded {
        int clip, frame, key, left;
    }

    static final class Channel {
        int number;
        List<Event> events = new ArrayList<>();
        boolean take, hold;
        int player;
        int[] failFrom = {0, 0}, failTo = {NONE, NONE};
        int fill = NONE, fillFrame;
        List<Given> given = new ArrayList<>();
        int least = 100, greatest = 1500, weight = 10, buffer = 8000;
        boolean told = true, in = true;
        TreeMap<Integer, Unit> units = new TreeMap<>();
        int tablePid = NONE, pid = NONE, clockAt = NONE;
        List<Integer> collected = null;
        int lastRight = NONE, lastDecoded = -100;
        Map<Integer, Decoded> decoded = new HashMap<>();
        List<int[]> shown = new ArrayList<>();
        List<int[]> alarms = new ArrayList<>();
    }

    final int p;
    final long begin;
    int now, total = 2000, version;
    final List<int[]> clips = new ArrayList<>();
    final List<Integer> fills = new ArrayList<>(), locals = new ArrayList<>();
    final Channel[] channels = new Channel[3];
    final List<int[]> sent = new ArrayList<>();
    final Map<Integer, Integer> counters = new HashMap<>();
    int columns = 5, lines = 4, blockColumns, blockLines, blockFirst, blocks;
    final List<int[]> losses = new ArrayList<>(), alterations = new ArrayList<>();
    int lost, mended, over;
    final Map<Integer, Integer> seenCounters = new HashMap<>();
    final List<int[]> faults = new ArrayList<>();
    boolean out;
    List<int[]> pieceFrames = new ArrayList<>();
    final List<int[]> region = new ArrayList<>();

    Model(int packets, int begin) {
        p = packets < 12 ? 12 : packets > 40 ? 40 : packets;
        this.begin = 2L * Integer.toUnsignedLong(begin);
        for (int c = 0; c < 3; c++) {
            channels[c] = new Channel();
            channels[c].number = c;
        }
    }

    static boolean in(int x, int a, int b) {
        return a <= x && x <= b;
    }

    int clip(int length, int effort) {
        if (!in(length, 1, 1000) || !in(effort, 1, 100)) return BAD;
        if (clips.size() == 16) return FULL;
        clips.add(new int[] {length, effort});
        return clips.size() - 1;
    }

    int fill(int clip) {
        if (!in(clip, 0, clips.size() - 1)) return BAD;
        if (fills.size() == 6) return FULL;
        fills.add(clip);
        return fills.size();
    }

    int local(int length) {
        if (!in(length, 1, 1000)) return BAD;
        if (locals.size() == 6) return FULL;
        locals.add(length);
        return locals.size();
    }

    int event(int channel, int kind, int at, int clip, int length) {
        if (!in(channel, 0, 2) || !in(kind, 0, 3) || !in(clip, 0, clips.size() - 1) || !in(length, 1, 1000)) return BAD;
        List<Event> events = channels[channel].events;
        if (kind == 1) {
            if (!in(at, now, 2999)) return BAD;
            for (Event e : events) if (e.kind == 1 && e.at >= at) return BAD;
        } else if (at != 0) return BAD;
        if (events.size() == 60) return FULL;
        Event e = new Event();
        e.kind = kind;
        e.at = at;
        e.clip = clip;
        e.length = length;
        events.add(e);
        return events.size() - 1;
    }

    Event eventAt(int channel, int event) {
        return in(channel, 0, 2) && in(event, 0, channels[channel].events.size() - 1) ? channels[channel].events.get(event) : null;
    }

    int skip(int channel, int event) {
        Event e = eventAt(channel, event);
        if (e == null || e.state != 0) return BAD;
        e.state = 4;
        return 1;
    }

    int take(int channel) {
        if (!in(channel, 0, 2)) return BAD;
        channels[channel].take = true;
        return 1;
    }

    int hold(int channel, boolean on) {
        if (!in(channel, 0, 2)) return BAD;
        int was = channels[channel].hold ? 1 : 0;
        channels[channel].hold = on;
        return was;
    }

    Event onOf(Channel c) {
        for (Event e : c.events) if (e.state == 1) return e;
        return null;
    }

    int overrun(int channel, int n) {
        if (!in(channel, 0, 2) || !in(n, 1, 1000)) return BAD;
        Event e = onOf(channels[channel]);
        if (e == null || e.length + n > 2000) return BAD;
        e.length += n;
        return e.length;
    }

    int fail(int channel, int player, int n) {
        if (!in(channel, 0, 2) || !in(player, 0, 1) || !in(n, 1, 1000)) return BAD;
        channels[channel].failFrom[player] = now;
        channels[channel].failTo[player] = now + n - 1;
        return 1;
    }

    int set(int channel, int least, int greatest, int weight) {
        if (!in(channel, 0, 2) || !in(least, 16, 1000) || !in(greatest, least, 3000) || !in(weight, 1, 100)) return BAD;
        channels[channel].least = least;
        channels[channel].greatest = greatest;
        channels[channel].weight = weight;
        return 1;
    }

    int buffer(int channel, int bytes) {
        if (!in(channel, 0, 2) || !in(bytes, 1000, 20000)) return BAD;
        int was = channels[channel].buffer;
        channels[channel].buffer = bytes;
        return was;
    }

    int total(int bytes) {
        if (!in(bytes, 0, 9000)) return BAD;
        int was = total;
        total = bytes;
        return was;
    }

    int service(int channel, boolean on) {
        if (!in(channel, 0, 2)) return BAD;
        int was = channels[channel].told ? 1 : 0;
        channels[channel].told = on;
        return was;
    }

    int lines(int columns, int lines) {
        if (!in(columns, 1, 8) || !in(lines, 1, 8)) return BAD;
        this.columns = columns;
        this.lines = lines;
        return 1;
    }

    int pendingLosses() {
        int count = 0;
        for (int[] l : losses) if (l[0] == 0 ? l[1] >= sent.size() : l[1] >= blocks) count++;
        return count;
    }

    int pendingAlterations() {
        int count = 0;
        for (int[] a : alterations) if (a[0] >= sent.size()) count++;
        return count;
    }

    int lose(int kind, int n) {
        if (!in(kind, 0, 16)) return BAD;
        if (kind == 0 ? !in(n, sent.size(), 3000 * p - 1) : !in(n, blocks, 200000)) return BAD;
        if (pendingLosses() == 300) return FULL;
        losses.add(new int[] {kind, n});
        return pendingLosses();
    }

    int alter(int n, int i, int mask) {
        if (!in(n, sent.size(), 3000 * p - 1) || !in(i, 0, 187) || !in(mask, 1, 255)) return BAD;
        if (pendingAlterations() == 300) return FULL;
        alterations.add(new int[] {n, i, mask});
        return pendingAlterations();
    }

    int tick(int n) {
        if (!in(n, 1, 100)) return BAD;
        if (now + n > 3000) return FULL;
        for (int i = 0; i < n; i++) frame();
        return now;
    }

    // ---- time

    long stamp(int f) {
        return (begin + 3600L * f) % (1L << 33);
    }

    /** BASE in 33 bits, six of 1, REST in 9, as a text of bits. */
    String clockText(int n) {
        long t = (300 * begin + 1080000L * n / p) % (300L << 33);
        return bits(t / 300, 33) + "111111" + bits(t % 300, 9);
    }

    static String bits(long x, int count) {
        StringBuilder s = new StringBuilder();
        for (int i = count - 1; i >= 0; i--) s.append((x >> i & 1) == 1 ? '1' : '0');
        return s.toString();
    }

    static long check(List<Integer> bytes) {
        long c = (1L << 32) - 1;
        for (int b : bytes) {
            c ^= (1L << 24) * b;
            for (int i = 0; i < 8; i++) {
                boolean high = c >> 31 == 1;
                c = c * 2 & 0xFFFFFFFFL;
                if (high) c ^= 79764919;
            }
        }
        return c;
    }

    static void two(List<Integer> to, int x) {
        to.add(x / 256);
        to.add(x % 256);
    }

    static void four(List<Integer> to, long x) {
        two(to, (int) (x >> 16));
        two(to, (int) (x & 65535));
    }

    // ---- the closing

    static List<Integer> closing(int h, List<Integer> lengths) {
        if (h > 12000) return null;
        for (int pieces = 1; pieces <= 12; pieces++) {
            List<Integer> row = rowOf(h, pieces, lengths, new HashSet<>());
            if (row != null) return row;
        }
        return null;
    }

    static List<Integer> rowOf(int h, int pieces, List<Integer> lengths, Set<Integer> hopeless) {
        if (pieces == 0) return h == 0 ? new ArrayList<>() : null;
        if (h <= 0 || hopeless.contains(h * 16 + pieces)) return null;
        for (int i = 0; i < lengths.size(); i++) {
            List<Integer> rest = rowOf(h - lengths.get(i), pieces - 1, lengths, hopeless);
            if (rest != null) {
                rest.add(0, i);
                return rest;
            }
        }
        hopeless.add(h * 16 + pieces);
        return null;
    }

    // ---- a frame

    void frame() {
        int f = now;
        for (Channel c : channels) playout(c, f);
        if (f % 4 == 0) services(f);
        for (Channel c : channels) {
            Unit u = c.units.get(f - 8);
            if (u != null && u.state == 1) u.state = 3;
        }
        units(f);
        packets(f);
        now++;
    }

    void playout(Channel c, int f) {
        Event fixed = null, on = onOf(c), first = null, firstFixed = null;
        for (Event e : c.events) {
            if (e.kind == 1 && e.at == f && e.state == 0) fixed = e;
            if (e.state == 0 && first == null) first = e;
        }
        if (fixed != null) {
            if (on != null) on.state = 3;
            for (Event e : c.events) {
                if (e == fixed) break;
                if (e.state == 0) e.state = 4;
            }
            fixed.state = 1;
        } else if (c.take) {
            if (on != null) on.state = 3;
            if (first != null && first.kind != 1) first.state = 1;
        } else {
            if (on != null && on.had >= on.length && !c.hold) {
                on.state = 2;
                on = null;
            }
            if (on == null && first != null && (first.kind == 0 || first.kind == 3)) first.state = 1;
        }
        c.take = false;
        on = onOf(c);
        Given g = new Given();
        g.player = c.player;
        boolean isFirst = false;
        if (on != null) {
            c.fill = NONE;
            g.what = 1;
            g.number = c.events.indexOf(on);
            g.clip = on.clip;
            g.frame = Math.min(on.had, on.length - 1) % clips.get(on.clip)[0];
            if (on.kind == 3) g.left = Math.max(0, on.length - on.had);
            isFirst = on.had == 0;
            if (isFirst) on.first = f;
            on.had++;
        } else {
            if (c.fill == NONE) {
                for (Event e : c.events) if (firstFixed == null && e.kind == 1 && e.state == 0) firstFixed = e;
                c.fill = chooseFill(firstFixed == null ? 0 : firstFixed.at - f);
                c.fillFrame = 0;
                isFirst = true;
            }
            if (c.fill != NONE) {
                g.what = 2;
                g.number = c.fill;
                g.clip = fills.get(c.fill);
                g.frame = c.fillFrame++;
                if (c.fillFrame == clips.get(g.clip)[0]) c.fill = NONE;
            }
        }
        if (in(f, c.failFrom[c.player], c.failTo[c.player])) {
            Given black = new Given();
            black.player = c.player;
            g = black;
            c.player = 1 - c.player;
        }
        boolean black = g.what == 0;
        boolean blackBefore = f > 0 && c.given.get(f - 1).what == 0;
        g.beginsRow = f == 0 || black != blackBefore || isFirst && !black;
        c.given.add(g);
    }

    int chooseFill(int h) {
        if (h == 0) return fills.isEmpty() ? NONE : 0;
        List<Integer> lengths = new ArrayList<>();
        for (int clip : fills) lengths.add(clips.get(clip)[0]);
        List<Integer> row = closing(h, lengths);
        if (row != null) return row.get(0);
        int best = NONE;
        for (int i = lengths.size() - 1; i >= 0; i--) {
            if (lengths.get(i) <= h && (best == NONE || lengths.get(i) >= lengths.get(best))) best = i;
        }
        return best;
    }

    void services(int f) {
        boolean changed = false;
        for (Channel c : channels) {
            if (c.told == c.in) continue;
            changed = true;
            c.in = c.told;
            if (c.in) continue;
            for (Unit u : c.units.values()) {
                if (u.state == 1) u.state = 4;
                u.counts = false;
            }
        }
        if (changed) version = (version + 1) % 32;
    }

    int rowFirst(Channel c, int f) {
        int first = f;
        while (!c.given.get(first).beginsRow) first--;
        return first;
    }

    void units(int f) {
        List<Unit> made = new ArrayList<>();
        List<Channel> of = new ArrayList<>();
        for (Channel c : channels) {
            if (!c.in) continue;
            Given g = c.given.get(f);
            Unit u = new Unit();
            u.frame = f;
            int behind = f - rowFirst(c, f);
            u.key = g.beginsRow ? 2 : behind % 12 == 0 || !c.units.containsKey(f - 1) ? 1 : 0;
            u.value = (g.what == 0 ? 1 : clips.get(g.clip)[1]) * (u.key != 0 ? 3 : 1) * c.weight;
            u.size = c.least;
            u.left = g.left;
            made.add(u);
            of.add(c);
        }
        while (true) {
            int sum = 0;
            for (Unit u : made) sum += u.size;
            if (sum >= total) break;
            Unit best = null;
            for (int i = 0; i < made.size(); i++) {
                Unit u = made.get(i);
                if (u.size >= of.get(i).greatest) continue;
                if (best == null || (u.size + 1) * best.value < (best.size + 1) * u.value) best = u;
            }
            if (best == null) break;
            best.size++;
        }
        for (int i = 0; i < made.size(); i++) {
            bytesOf(made.get(i), of.get(i), f);
            of.get(i).units.put(f, made.get(i));
        }
    }

    void bytesOf(Unit u, Channel c, int f) {
        Given g = c.given.get(f);
        List<Integer> body = new ArrayList<>();
        two(body, f);
        body.add(g.what == 0 ? 0 : 1 + g.clip);
        two(body, g.what == 0 ? 0 : g.frame);
        body.add(u.key);
        two(body, u.left);
        long x = 65536L * c.number + f;
        while (body.size() + 4 < u.size) {
            x = (1103515245L * x + 12345) % (1L << 32);
            body.add((int) (x / 65536 % 256));
        }
        for (int b : new int[] {0, 0, 1, 224}) u.bytes.add(b);
        two(u.bytes, 8 + u.size);
        for (int b : new int[] {128, 128, 5}) u.bytes.add(b);
        String s = bits(stamp(f + 8), 33);
        u.bytes.add(Integer.parseInt("0010" + s.substring(0, 3) + "1", 2));
        u.bytes.add(Integer.parseInt(s.substring(3, 11), 2));
        u.bytes.add(Integer.parseInt(s.substring(11, 18) + "1", 2));
        u.bytes.add(Integer.parseInt(s.substring(18, 26), 2));
        u.bytes.add(Integer.parseInt(s.substring(26) + "1", 2));
        four(u.bytes, check(body));
        u.bytes.addAll(body);
        if (u.bytes.size() != 14 + u.size) throw new IllegalStateException();
    }

    // ---- packets

    int counter(int pid, boolean payload) {
        int before = counters.getOrDefault(pid, 15);
        if (payload) before = (before + 1) % 16;
        counters.put(pid, before);
        return before;
    }

    void packets(int f) {
        int end = sent.size() + p;
        if (f % 4 == 0) {
            list();
            for (Channel c : channels) if (c.in) table(c);
        }
        for (Channel c : channels) {
            if (!c.in) continue;
            Unit u = firstOpen(c);
            if (u != null && !room(c, f, next(u, true))) u = null;
            unitPacket(c, u, true);
        }
        while (sent.size() < end) {
            Channel best = null;
            for (Channel c : channels) {
                Unit u = firstOpen(c);
                if (u == null || !room(c, f, next(u, false))) continue;
                if (best == null || u.frame < firstOpen(best).frame) best = c;
            }
            if (best != null) unitPacket(best, firstOpen(best), false);
            else packet(List.of(71, 31, 255, 16), new ArrayList<>());
        }
    }

    Unit firstOpen(Channel c) {
        for (Unit u : c.units.tailMap(now - 8).values()) if (u.state == 1) return u;
        return null;
    }

    int next(Unit u, boolean clock) {
        int must = clock ? 8 : u.sent == 0 && u.key > 0 ? 2 : 0;
        return Math.min(u.bytes.size() - u.sent, 184 - must);
    }

    int roomOf(Channel c, int f) {
        int sum = 0;
        for (Unit u : c.units.tailMap(f - 7).values()) if (u.counts && in(u.frame, f - 7, f)) sum += u.sent;
        return sum;
    }

    boolean room(Channel c, int f, int more) {
        return roomOf(c, f) + more <= c.buffer;
    }

    void list() {
        List<Integer> s = new ArrayList<>();
        int count = 0;
        for (Channel c : channels) if (c.in) count++;
        for (int b : new int[] {0, 176, 9 + 4 * count, 0, 1, 193 + 2 * version, 0, 0}) s.add(b);
        for (Channel c : channels) {
            if (!c.in) continue;
            two(s, c.number + 1);
            two(s, 57344 + 256 + 16 * c.number);
        }
        section(0, s);
    }

    void table(Channel c) {
        List<Integer> s = new ArrayList<>();
        for (int b : new int[] {2, 176, 18}) s.add(b);
        two(s, c.number + 1);
        for (int b : new int[] {193, 0, 0}) s.add(b);
        two(s, 57344 + 257 + 16 * c.number);
        for (int b : new int[] {240, 0, 27}) s.add(b);
        two(s, 57344 + 257 + 16 * c.number);
        for (int b : new int[] {240, 0}) s.add(b);
        section(256 + 16 * c.number, s);
    }

    void section(int pid, List<Integer> s) {
        four(s, check(s));
        s.add(0, 0);
        packet(List.of(71, 64 + pid / 256, pid % 256, 16 + counter(pid, true)), s);
    }

    void packet(List<Integer> head, List<Integer> rest) {
        int[] bytes = new int[188];
        for (int i = 0; i < 188; i++) {
            bytes[i] = i < 4 ? head.get(i) : i - 4 < rest.size() ? rest.get(i - 4) : 255;
        }
        sent.add(bytes);
        path();
    }

    void unitPacket(Channel c, Unit u, boolean clock) {
        int pid = 257 + 16 * c.number;
        int n = sent.size();
        int size = u == null ? 0 : next(u, clock);
        boolean begins = u != null && u.sent == 0;
        int k = 184 - size;
        List<Integer> rest = new ArrayList<>();
        if (k > 0) rest.add(k - 1);
        if (k > 1) rest.add((begins && u.key > 0 ? 64 : 0) + (clock ? 16 : 0));
        if (clock) {
            String text = clockText(n);
            for (int i = 0; i < 48; i += 8) rest.add(Integer.parseInt(text.substring(i, i + 8), 2));
        }
        while (rest.size() < k) rest.add(255);
        for (int i = 0; i < size; i++) rest.add(u.bytes.get(u.sent++));
        if (u != null && u.sent == u.bytes.size()) {
            u.state = 2;
            u.last = n;
        }
        int marks = (size > 0 ? 16 : 0) + (k > 0 ? 32 : 0);
        packet(List.of(71, (begins ? 64 : 0) + pid / 256, pid % 256, marks + counter(pid, size > 0)), rest);
    }

    // ---- the path

    void path() {
        int n = sent.size() - 1;
        if (n == blockFirst) {
            blockColumns = columns;
            blockLines = lines;
        }
        for (int[] l : losses) {
            if (l[0] == 0 && l[1] == n) {
                lost++;
                break;
            }
        }
        if (sent.size() - blockFirst == blockColumns * blockLines) block();
    }

    void block() {
        int size = blockColumns * blockLines;
        int[][] came = new int[size][];
        for (int k = 0; k < size; k++) {
            came[k] = sent.get(blockFirst + k).clone();
            for (int[] a : alterations) if (a[0] == blockFirst + k) came[k][a[1]] ^= a[2];
            for (int[] l : losses) if (l[0] == 0 && l[1] == blockFirst + k) came[k] = null;
        }
        List<List<Integer>> groups = new ArrayList<>();
        for (int l = 0; l < blockLines; l++) {
            groups.add(new ArrayList<>());
            for (int k = 0; k < size; k++) if (k / blockColumns == l) groups.get(l).add(k);
        }
        for (int c = 0; c < blockColumns; c++) {
            groups.add(new ArrayList<>());
            for (int k = 0; k < size; k++) if (k % blockColumns == c) groups.get(blockLines + c).add(k);
        }
        List<int[]> parities = new ArrayList<>();
        for (int i = 0; i < groups.size(); i++) {
            int[] parity = new int[188];
            for (int k : groups.get(i)) for (int b = 0; b < 188; b++) parity[b] ^= sent.get(blockFirst + k)[b];
            for (int[] l : losses) if (l[0] == i + 1 && l[1] == blocks) parity = null;
            parities.add(parity);
        }
        boolean again = true;
        while (again) {
            again = false;
            for (int i = 0; i < groups.size() && !again; i++) {
                int missing = 0, which = NONE;
                for (int k : groups.get(i)) {
                    if (came[k] == null) {
                        missing++;
                        which = k;
                    }
                }
                if (missing != 1 || parities.get(i) == null) continue;
                int[] x = parities.get(i).clone();
                for (int k : groups.get(i)) if (k != which) for (int b = 0; b < 188; b++) x[b] ^= came[k][b];
                came[which] = x;
                mended++;
                again = true;
            }
        }
        for (int k = 0; k < size; k++) if (came[k] != null) judge(blockFirst + k, came[k]);
        blockFirst += size;
        blocks++;
        while (over < 3000 && (over + 8) * p - 1 < blockFirst) over();
    }

    // ---- what comes

    void fault(int number, int n) {
        faults.add(new int[] {number, n});
    }

    void judge(int n, int[] b) {
        if (b[0] != 71 || (b[1] & 128) != 0) {
            fault(1, n);
            return;
        }
        boolean payload = (b[3] & 16) != 0, field = (b[3] & 32) != 0;
        boolean wrong = !payload && !field;
        boolean clock = false;
        int from = 4;
        if (field) {
            if (b[4] > (payload ? 182 : 183)) wrong = true;
            if (b[4] >= 1 && (b[5] & 16) != 0) {
                clock = true;
                if (b[4] < 7) wrong = true;
            }
            from = 5 + b[4];
        }
        if (wrong) {
            fault(2, n);
            return;
        }
        int pid = (b[1] & 31) * 256 + b[2];
        Channel table = null, channel = null;
        if (pid != 0) {
            for (int c = 2; c >= 0; c--) if (channels[c].tablePid == pid) table = channels[c];
            for (int c = 2; c >= 0 && table == null; c--) if (channels[c].pid == pid) channel = channels[c];
            if (table == null && channel == null) return;
        }
        int counter = b[3] & 15;
        Integer before = seenCounters.put(pid, counter);
        if (before != null && counter != (payload ? (before + 1) % 16 : before)) {
            fault(3, n);
            if (channel != null) channel.collected = null;
        }
        if (channel != null && clock) {
            StringBuilder text = new StringBuilder();
            for (int i = 6; i < 12; i++) text.append(bits(b[i], 8));
            if (!text.toString().equals(clockText(n))) fault(4, n);
            if (channel.clockAt != NONE && n - channel.clockAt > 3 * p) fault(5, n);
            channel.clockAt = n;
        }
        if (!payload) return;
        List<Integer> bytes = new ArrayList<>();
        for (int i = from; i < 188; i++) bytes.add(b[i]);
        boolean starts = (b[1] & 64) != 0;
        if (channel == null) {
            if (!section(bytes, starts, table)) fault(6, n);
        } else collect(channel, bytes, starts, n);
    }

    static int twoAt(List<Integer> bytes, int at) {
        return bytes.get(at) * 256 + bytes.get(at + 1);
    }

    boolean section(List<Integer> bytes, boolean starts, Channel table) {
        if (!starts || bytes.size() < 4 || bytes.get(0) != 0) return false;
        List<Integer> s = bytes.subList(1, bytes.size());
        if (s.get(0) != (table == null ? 0 : 2)) return false;
        int z = twoAt(s, 1) & 4095;
        if (z + 4 > bytes.size()) return false;
        if (table == null && (z < 9 || (z - 9) % 4 != 0)) return false;
        if (table != null && (z != 18 || twoAt(s, 3) != table.number + 1)) return false;
        List<Integer> sum = new ArrayList<>();
        four(sum, check(s.subList(0, z - 1)));
        if (!sum.equals(s.subList(z - 1, z + 3))) return false;
        if (table != null) {
            int pid = twoAt(s, 13) & 8191;
            if (pid != table.pid) {
                table.collected = null;
                table.clockAt = NONE;
            }
            table.pid = pid;
            return true;
        }
        Map<Integer, Integer> told = new HashMap<>();
        for (int i = 8; i < z - 1; i += 4) told.put(twoAt(s, i), twoAt(s, i + 2) & 8191);
        for (Channel c : channels) {
            int pid = told.getOrDefault(c.number + 1, NONE);
            if (pid == NONE || pid != c.tablePid) {
                c.pid = NONE;
                c.collected = null;
                c.clockAt = NONE;
            }
            c.tablePid = pid;
        }
        return true;
    }

    void collect(Channel c, List<Integer> bytes, boolean starts, int n) {
        if (starts) {
            if (c.collected != null) fault(7, n);
            c.collected = new ArrayList<>();
        }
        if (c.collected == null) return;
        c.collected.addAll(bytes);
        List<Integer> all = c.collected;
        if (all.size() < 6) return;
        int rest = twoAt(all, 4);
        boolean right = all.subList(0, 4).equals(List.of(0, 0, 1, 224)) && in(rest, 24, 3008) && all.size() <= 6 + rest;
        if (right && all.size() < 6 + rest) return;
        c.collected = null;
        if (!right || !whole(c, all)) fault(8, n);
    }

    boolean whole(Channel c, List<Integer> all) {
        if (!all.subList(6, 9).equals(List.of(128, 128, 5))) return false;
        if ((all.get(9) & 241) != 33 || all.get(11) % 2 == 0 || all.get(13) % 2 == 0) return false;
        String text = bits(all.get(9), 8).substring(4, 7) + bits(all.get(10), 8) + bits(all.get(11), 8).substring(0, 7)
            + bits(all.get(12), 8) + bits(all.get(13), 8).substring(0, 7);
        long d = Long.parseLong(text, 2) - begin;
        if (d < 0) d += 1L << 33;
        if (d % 3600 != 0) return false;
        long g = d / 3600 - 8;
        if (g < 0 || g > 2999 || g < over || g <= c.lastRight) return false;
        List<Integer> unit = all.subList(14, all.size());
        List<Integer> sum = new ArrayList<>();
        four(sum, check(unit.subList(4, unit.size())));
        if (!sum.equals(unit.subList(0, 4))) return false;
        int key = unit.get(9);
        if (twoAt(unit, 4) != g || key > 2 || unit.get(6) > 16) return false;
        c.lastRight = (int) g;
        if (key == 0 && c.lastDecoded != g - 1) return true;
        c.lastDecoded = (int) g;
        Decoded d1 = new Decoded();
        d1.clip = unit.get(6) - 1;
        d1.frame = d1.clip == NONE ? NONE : twoAt(unit, 7);
        d1.key = key;
        d1.left = twoAt(unit, 10);
        c.decoded.put((int) g, d1);
        return true;
    }

    // ---- what is shown

    void over() {
        int f = over;
        for (Channel c : channels) {
            Decoded d = c.decoded.get(f);
            if (d != null) c.shown.add(new int[] {1, d.clip, d.frame});
            else if (f == 0) c.shown.add(new int[] {0, NONE, NONE});
            else c.shown.add(new int[] {0, c.shown.get(f - 1)[1], c.shown.get(f - 1)[2]});
            for (int kind = 0; kind < 2; kind++) alarms(c, kind, f);
        }
        Decoded d = channels[0].decoded.get(f);
        if (out && (pieceFrames.isEmpty() || d != null && d.left == 0)) out = false;
        if (!out && d != null && d.key == 2 && d.left > 0) {
            List<Integer> row = closing(d.left, locals);
            if (row != null) {
                out = true;
                pieceFrames = new ArrayList<>();
                for (int piece : row) for (int i = 0; i < locals.get(piece); i++) pieceFrames.add(new int[] {1 + piece, i});
            }
        }
        region.add(out ? pieceFrames.remove(0) : new int[] {0, NONE});
        over++;
    }

    boolean isSo(Channel c, int kind, int f) {
        return f >= 0 && (kind == 0 ? c.shown.get(f)[1] == NONE : c.shown.get(f)[0] == 0);
    }

    void alarms(Channel c, int kind, int f) {
        if (!isSo(c, kind, f)) {
            for (int[] a : c.alarms) if (a[0] == kind && a[2] == NONE) a[2] = f;
            return;
        }
        for (int[] a : c.alarms) if (a[0] == kind && a[2] == NONE) return;
        for (int i = 0; i < (kind == 0 ? 10 : 5); i++) if (!isSo(c, kind, f - i)) return;
        c.alarms.add(new int[] {kind, f, NONE});
    }

    // ---- what is told

    int eventOf(int channel, int event, int what) {
        Event e = eventAt(channel, event);
        if (e == null || !in(what, 0, 3)) return BAD;
        return new int[] {e.state, e.had, e.length, e.first}[what];
    }

    int source(int channel, int frame, int what) {
        if (!in(channel, 0, 2) || !in(frame, 0, now - 1) || !in(what, 0, 4)) return BAD;
        Given g = channels[channel].given.get(frame);
        return new int[] {g.what, g.number, g.clip, g.frame, g.player}[what];
    }

    List<Integer> rowList(int channel) {
        List<Integer> rows = new ArrayList<>();
        for (int f = 0; f < now; f++) if (channels[channel].given.get(f).beginsRow) rows.add(f);
        return rows;
    }

    int rows(int channel) {
        return in(channel, 0, 2) ? rowList(channel).size() : BAD;
    }

    int row(int channel, int k, int what) {
        if (!in(channel, 0, 2) || !in(what, 0, 2)) return BAD;
        List<Integer> rows = rowList(channel);
        if (!in(k, 0, rows.size() - 1)) return BAD;
        int end = k + 1 < rows.size() ? rows.get(k + 1) : now;
        if (what == 0) return rows.get(k);
        if (what == 1) return end - rows.get(k);
        int count = 0;
        for (int f = rows.get(k); f < end; f++) {
            Decoded d = channels[channel].decoded.get(f);
            Given g = channels[channel].given.get(f);
            if (f >= over || d == null) continue;
            if (g.what == 0 ? d.clip == NONE : d.clip == g.clip && d.frame == g.frame) count++;
        }
        return count;
    }

    int unit(int channel, int frame, int what) {
        if (!in(channel, 0, 2) || !in(frame, 0, now - 1) || !in(what, 0, 4)) return BAD;
        Unit u = channels[channel].units.get(frame);
        if (u == null) return what == 4 ? NONE : 0;
        return new int[] {u.state, u.size, u.key, u.left, u.last}[what];
    }

    int sent(int n, int i) {
        if (!in(i, 0, 187)) return BAD;
        if (!in(n, 0, sent.size() - 1) || n < sent.size() - 256) return NONE;
        return sent.get(n)[i];
    }

    int stored(int channel) {
        return in(channel, 0, 2) ? roomOf(channels[channel], now - 1) : BAD;
    }

    int shown(int channel, int frame, int what) {
        if (!in(channel, 0, 2) || !in(frame, 0, over - 1) || !in(what, 0, 2)) return BAD;
        return channels[channel].shown.get(frame)[what];
    }

    int region(int frame, int what) {
        return in(frame, 0, over - 1) && in(what, 0, 1) ? region.get(frame)[what] : BAD;
    }

    int alarm(int channel, int k, int what) {
        if (!in(channel, 0, 2) || !in(k, 0, channels[channel].alarms.size() - 1) || !in(what, 0, 2)) return BAD;
        return channels[channel].alarms.get(k)[what];
    }

    int faults(int number) {
        if (!in(number, 0, 8)) return BAD;
        int count = 0;
        for (int[] f : faults) if (number == 0 || f[0] == number) count++;
        return count;
    }

    int told(int what) {
        if (!in(what, 0, 11)) return BAD;
        int[] first = faults.isEmpty() ? new int[] {NONE, NONE} : faults.get(0);
        return new int[] {now, sent.size(), blocks, lost, mended, first[1], first[0], over, version,
            channels[0].alarms.size(), channels[1].alarms.size(), channels[2].alarms.size()}[what];
    }
}
