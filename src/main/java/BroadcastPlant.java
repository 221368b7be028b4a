import java.util.Arrays;

/**
 * A broadcast plant, exact to the byte: three channels are played out, made into units, packed into one
 * stream, sent over a path that loses and alters, judged, and shown. The promises are numbered in DOC.md.
 */
public final class BroadcastPlant {
    public static final int NONE = -1, BAD = -2, FULL = -3;

    private static final int CHANNELS = 3;
    private static final int FRAMES = 3000;
    /** A unit has this many frames to be sent in, and is shown behind them. */
    private static final int DELAY = 8;
    private static final int PACKET = 188;
    private static final int PAYLOAD = 184;
    private static final int KEPT = 256;
    private static final int MOST_TOLD = 300;
    private static final int PARITIES = 16;
    private static final int LAST_BLOCK = 200000;
    private static final int MOST_TOTAL = 9000;
    private static final int TICKS = 3600;
    private static final long STAMPS = 1L << 33;
    private static final int NULL_PID = 8191;
    private static final int TABLE_PID = 256;
    private static final int CHANNEL_PID = 257;
    private static final int PID_STEP = 16;
    private static final int HAS_PAYLOAD = 16;
    private static final int HAS_FIELD = 32;
    private static final int STARTS = 64;
    private static final int CLOCK_FLAG = 16;
    private static final int KEY_FLAG = 64;

    private final int packets;
    private final Clips clips = new Clips();
    private final Playout[] playouts = new Playout[CHANNELS];
    private final Units[] makers = new Units[CHANNELS];
    private final Stream stream;
    private final Path path;
    private final Receiver[] receivers = new Receiver[CHANNELS];
    private final Judge judge;
    private final Region insertion = new Region();
    private int now;
    private int shared = 2000;

    public BroadcastPlant(int packets, int begin) {
        this.packets = Math.max(12, Math.min(40, packets));
        long start = 2 * (begin & 0xFFFFFFFFL);
        for (int c = 0; c < CHANNELS; c++) {
            playouts[c] = new Playout(clips);
            makers[c] = new Units(c, start);
            receivers[c] = new Receiver(start);
        }
        stream = new Stream(this.packets, start, makers);
        path = new Path(stream.kept);
        judge = new Judge(this.packets, start, receivers, path.came);
    }

    public int clip(int length, int effort) {
        if (!within(length, 1, 1000) || !within(effort, 1, 100)) return BAD;
        return clips.add(length, effort);
    }

    public int fill(int clip) {
        if (!within(clip, 0, clips.count - 1)) return BAD;
        return clips.addFill(clip);
    }

    public int local(int length) {
        if (!within(length, 1, 1000)) return BAD;
        return insertion.locals.add(length) ? insertion.locals.count : FULL;
    }

    public int event(int channel, int kind, int at, int clip, int length) {
        if (!isChannel(channel) || !within(kind, 0, 3)) return BAD;
        if (!within(clip, 0, clips.count - 1) || !within(length, 1, 1000)) return BAD;
        Playout playout = playouts[channel];
        boolean fixed = kind == Playout.FIXED;
        if (fixed && !within(at, Math.max(now, playout.lastFixed + 1), FRAMES - 1)) return BAD;
        if (!fixed && at != 0) return BAD;
        return playout.add(kind, at, clip, length);
    }

    public int skip(int channel, int event) {
        if (!isEvent(channel, event)) return BAD;
        return playouts[channel].skipPlanned(event) ? 1 : BAD;
    }

    public int take(int channel) {
        if (!isChannel(channel)) return BAD;
        playouts[channel].taking = true;
        return 1;
    }

    public int hold(int channel, boolean on) {
        if (!isChannel(channel)) return BAD;
        int before = playouts[channel].holding ? 1 : 0;
        playouts[channel].holding = on;
        return before;
    }

    public int overrun(int channel, int n) {
        if (!isChannel(channel) || !within(n, 1, 1000)) return BAD;
        return playouts[channel].lengthen(n);
    }

    public int fail(int channel, int player, int n) {
        if (!isChannel(channel) || !within(player, 0, 1) || !within(n, 1, 1000)) return BAD;
        playouts[channel].failFrom[player] = now;
        playouts[channel].failTo[player] = now + n;
        return 1;
    }

    public int set(int channel, int least, int greatest, int weight) {
        if (!isChannel(channel) || !within(least, 16, 1000)) return BAD;
        if (!within(greatest, least, 3000) || !within(weight, 1, 100)) return BAD;
        makers[channel].least = least;
        makers[channel].greatest = greatest;
        makers[channel].weight = weight;
        return 1;
    }

    public int buffer(int channel, int bytes) {
        if (!isChannel(channel) || !within(bytes, 1000, 20000)) return BAD;
        int before = makers[channel].allowed;
        makers[channel].allowed = bytes;
        return before;
    }

    public int total(int bytes) {
        if (!within(bytes, 0, MOST_TOTAL)) return BAD;
        int before = shared;
        shared = bytes;
        return before;
    }

    public int service(int channel, boolean on) {
        if (!isChannel(channel)) return BAD;
        int before = makers[channel].wanted ? 1 : 0;
        makers[channel].wanted = on;
        return before;
    }

    public int lines(int columns, int lines) {
        if (!within(columns, 1, 8) || !within(lines, 1, 8)) return BAD;
        path.nextColumns = columns;
        path.nextLines = lines;
        return 1;
    }

    public int lose(int kind, int n) {
        if (!within(kind, 0, PARITIES)) return BAD;
        if (kind == 0 && !isToBeSent(n)) return BAD;
        if (kind > 0 && !within(n, path.block, LAST_BLOCK)) return BAD;
        if (path.lossesTold() >= MOST_TOLD) return FULL;
        if (kind == 0) path.losses.add(n, 0);
        else path.parityLosses.add(n, kind - 1);
        return path.lossesTold();
    }

    public int alter(int n, int i, int mask) {
        if (!isToBeSent(n) || !within(i, 0, PACKET - 1) || !within(mask, 1, 255)) return BAD;
        if (path.alterations.count >= MOST_TOLD) return FULL;
        path.alterations.add(n, i << 8 | mask);
        return path.alterations.count;
    }

    public int tick(int n) {
        if (!within(n, 1, 100)) return BAD;
        if (now + n > FRAMES) return FULL;
        for (int i = 0; i < n; i++) runFrame();
        return now;
    }

    public int eventOf(int channel, int event, int what) {
        if (!isEvent(channel, event) || !within(what, 0, 3)) return BAD;
        return playouts[channel].events[event * Playout.EVENT_COLUMNS + what];
    }

    public int source(int channel, int frame, int what) {
        if (!isChannel(channel) || !within(frame, 0, now - 1) || !within(what, 0, 4)) return BAD;
        return playouts[channel].given[frame * Playout.GIVEN_COLUMNS + what];
    }

    public int rows(int channel) {
        return isChannel(channel) ? playouts[channel].rowCount : BAD;
    }

    public int row(int channel, int k, int what) {
        if (!isChannel(channel) || !within(k, 0, playouts[channel].rowCount - 1) || !within(what, 0, 2)) return BAD;
        Playout playout = playouts[channel];
        int first = playout.rowFirsts[k];
        int end = k + 1 < playout.rowCount ? playout.rowFirsts[k + 1] : now;
        if (what == 0) return first;
        return what == 1 ? end - first : countRight(channel, first, end);
    }

    public int unit(int channel, int frame, int what) {
        if (!isChannel(channel) || !within(frame, 0, now - 1) || !within(what, 0, 4)) return BAD;
        return makers[channel].made[frame * Units.COLUMNS + what];
    }

    public int sent(int n, int i) {
        if (!within(i, 0, PACKET - 1)) return BAD;
        if (!within(n, Math.max(0, stream.count - KEPT), stream.count - 1)) return NONE;
        return stream.kept[n % KEPT * PACKET + i] & 255;
    }

    public int stored(int channel) {
        return isChannel(channel) ? makers[channel].held : BAD;
    }

    public int shown(int channel, int frame, int what) {
        if (!isChannel(channel) || !within(frame, 0, judge.over - 1) || !within(what, 0, 2)) return BAD;
        return receivers[channel].screen[frame * Receiver.COLUMNS + what];
    }

    public int region(int frame, int what) {
        if (!within(frame, 0, judge.over - 1) || !within(what, 0, 1)) return BAD;
        return insertion.screen[frame * Region.COLUMNS + what];
    }

    public int alarm(int channel, int k, int what) {
        if (!isChannel(channel) || !within(k, 0, receivers[channel].alarmCount - 1)) return BAD;
        return within(what, 0, 2) ? receivers[channel].alarms[k * Receiver.ALARM_COLUMNS + what] : BAD;
    }

    public int faults(int number) {
        return within(number, 0, Judge.LAST_FAULT) ? judge.counts[number] : BAD;
    }

    public int told(int what) {
        switch (what) {
            case 0: return now;
            case 1: return stream.count;
            case 2: return path.block;
            case 3: return path.lost;
            case 4: return path.mended;
            case 5: return judge.firstPacket;
            case 6: return judge.firstNumber;
            case 7: return judge.over;
            case 8: return stream.version;
            case 9: case 10: case 11: return receivers[what - 9].alarmCount;
            default: return BAD;
        }
    }

    private static boolean within(int x, int least, int greatest) {
        return x >= least && x <= greatest;
    }

    private static boolean isChannel(int channel) {
        return within(channel, 0, CHANNELS - 1);
    }

    private boolean isEvent(int channel, int event) {
        return isChannel(channel) && within(event, 0, playouts[channel].count - 1);
    }

    private boolean isToBeSent(int n) {
        return within(n, stream.count, FRAMES * packets - 1);
    }

    private int countRight(int channel, int first, int end) {
        int right = 0;
        for (int f = first; f < end && f < judge.over; f++) {
            if (receivers[channel].decodedAs(f, playouts[channel].clipAt(f), playouts[channel].frameAt(f))) right++;
        }
        return right;
    }

    private void runFrame() {
        int f = now;
        for (Playout playout : playouts) playout.beginFrame(f);
        if (f % 4 == 0) stream.changeService(f);
        for (int c = 0; c < CHANNELS; c++) makers[c].beginFrame(f, playouts[c], clips);
        Units.share(makers, shared);
        for (int c = 0; c < CHANNELS; c++) makers[c].make(f, playouts[c]);
        for (int k = 0; k < packets; k++) {
            stream.makePacket(f, k);
            path.carry(stream.count - 1);
            if (path.isBlockFull()) finishBlock();
        }
        now = f + 1;
    }

    private void finishBlock() {
        path.mend();
        for (int k = 0; k < path.count; k++) {
            if (path.there[k]) judge.look(path.first + k, k * PACKET);
        }
        path.closeBlock();
        int over = Math.min(FRAMES, path.first / packets - DELAY + 1);
        for (int f = judge.over; f < over; f++) {
            for (Receiver receiver : receivers) receiver.finishFrame(f);
            insertion.finishFrame(f, receivers[0]);
            judge.over = f + 1;
        }
    }

    /** CLOCK(n) as the 48 bits that a field has. */
    private static long clockBits(int n, int packets, long begin) {
        long t = (300 * begin + 1080000L * n / Math.max(1, packets)) % (300 * STAMPS);
        return t / 300 << 15 | 63 << 9 | t % 300;
    }

    /** Numbers of several bytes, and the CHECK. */
    private static final class Bytes {
        /** What four bits shifted out of the highest end put into the CHECK. */
        private static final int[] CHECKS = {
            0x00000000, 0x04C11DB7, 0x09823B6E, 0x0D4326D9, 0x130476DC, 0x17C56B6B, 0x1A864DB2, 0x1E475005,
            0x2608EDB8, 0x22C9F00F, 0x2F8AD6D6, 0x2B4BCB61, 0x350C9B64, 0x31CD86D3, 0x3C8EA00A, 0x384FBDBD
        };

        static int check(byte[] bytes, int from, int to) {
            int c = -1;
            for (int i = from; i < to; i++) {
                int b = bytes[i];
                c = c << 4 ^ CHECKS[(c >>> 28 ^ b >>> 4) & 15];
                c = c << 4 ^ CHECKS[(c >>> 28 ^ b) & 15];
            }
            return c;
        }

        static void putTwo(byte[] bytes, int at, int x) {
            bytes[at] = (byte) (x >> 8);
            bytes[at + 1] = (byte) x;
        }

        static void putFour(byte[] bytes, int at, int x) {
            bytes[at] = (byte) (x >> 24);
            bytes[at + 1] = (byte) (x >> 16);
            bytes[at + 2] = (byte) (x >> 8);
            bytes[at + 3] = (byte) x;
        }

        static int one(byte[] bytes, int at) {
            return bytes[at] & 255;
        }

        static int two(byte[] bytes, int at) {
            return (bytes[at] & 255) << 8 | bytes[at + 1] & 255;
        }

        static int four(byte[] bytes, int at) {
            int high = (bytes[at] & 255) << 8 | bytes[at + 1] & 255;
            return high << 16 | (bytes[at + 2] & 255) << 8 | bytes[at + 3] & 255;
        }
    }

    /** Lengths, and the fewest of them (each as often as wished) that close a hole. */
    private static final class Closing {
        static final int MOST = 6;
        static final int PIECES = 12;
        final int[] lengths = new int[MOST];
        int count;
        /** By the hole's frames; kept up as lengths come, as holes are asked for far more often. */
        private final int[] fewest;

        Closing(int longest) {
            fewest = new int[longest + 1];
            Arrays.fill(fewest, PIECES + 1);
            fewest[0] = 0;
        }

        boolean add(int length) {
            if (count >= MOST) return false;
            lengths[count++] = length;
            for (int h = length; h < fewest.length; h++) {
                fewest[h] = Math.min(fewest[h], fewest[h - length] + 1);
            }
            return true;
        }

        /** The number of the first piece of the closing of h frames. */
        int firstPiece(int h) {
            if (h < 1 || h >= fewest.length || fewest[h] > PIECES) return NONE;
            for (int i = 0; i < count; i++) {
                if (lengths[i] <= h && fewest[h - lengths[i]] == fewest[h] - 1) return i;
            }
            return NONE;
        }

        int longestWithin(int h) {
            int longest = NONE;
            for (int i = 0; i < count; i++) {
                if (lengths[i] <= h && (longest == NONE || lengths[i] > lengths[longest])) longest = i;
            }
            return longest;
        }
    }

    private static final class Clips {
        private static final int MOST = 16;
        final int[] lengths = new int[MOST];
        final int[] efforts = new int[MOST];
        int count;
        final int[] fillClips = new int[Closing.MOST];
        private final Closing fills = new Closing(FRAMES);

        int add(int length, int effort) {
            if (count >= MOST) return FULL;
            lengths[count] = length;
            efforts[count] = effort;
            return count++;
        }

        int addFill(int clip) {
            int number = fills.count;
            if (!fills.add(lengths[clip])) return FULL;
            fillClips[number] = clip;
            return fills.count;
        }

        /** The fill that is begun when h frames are to be closed; h is NONE when no end is in sight. */
        int fillFor(int h) {
            if (h == NONE) return fills.count > 0 ? 0 : NONE;
            int first = fills.firstPiece(h);
            return first != NONE ? first : fills.longestWithin(h);
        }
    }

    /** One channel's events, what its frames give, and its AS RUN. */
    private static final class Playout {
        static final int FIXED = 1;
        private static final int MANUAL = 2, BREAK = 3;
        private static final int PLANNED = 0, ON = 1, ENDED = 2, CUT = 3, SKIPPED = 4;
        /** Columns of events; the first four in the order in which they are told. */
        private static final int STATE = 0, HAD = 1, LENGTH = 2, FIRST = 3, KIND = 4, AT = 5, CLIP = 6;
        static final int EVENT_COLUMNS = 7;
        private static final int MOST = 60;
        private static final int BLACK = 0, EVENT = 1, FILL = 2;
        /** Columns of given: what it is, number, clip, clip's frame, player. */
        static final int GIVEN_COLUMNS = 5;

        private final Clips clips;
        final int[] events = new int[MOST * EVENT_COLUMNS];
        int count;
        int lastFixed = NONE;
        private int on = NONE;
        boolean taking, holding;
        private int player;
        final int[] failFrom = new int[2], failTo = new int[2];
        private int piece = NONE;
        private int pieceFrame;
        final int[] given = new int[FRAMES * GIVEN_COLUMNS];
        /** LEFT of the frame that was given last. */
        int left;
        final int[] rowFirsts = new int[FRAMES];
        int rowCount;

        Playout(Clips clips) {
            this.clips = clips;
        }

        int add(int kind, int at, int clip, int length) {
            if (count >= MOST) return FULL;
            int e = count * EVENT_COLUMNS;
            events[e + LENGTH] = length;
            events[e + FIRST] = NONE;
            events[e + KIND] = kind;
            events[e + AT] = at;
            events[e + CLIP] = clip;
            if (kind == FIXED) lastFixed = at;
            return count++;
        }

        boolean skipPlanned(int event) {
            if (read(event, STATE) != PLANNED) return false;
            events[event * EVENT_COLUMNS + STATE] = SKIPPED;
            return true;
        }

        int lengthen(int n) {
            if (on == NONE || read(on, LENGTH) + n > 2000) return BAD;
            events[on * EVENT_COLUMNS + LENGTH] += n;
            return read(on, LENGTH);
        }

        void beginFrame(int f) {
            int fixed = firstPlanned(true);
            if (fixed != NONE && read(fixed, AT) == f) {
                finish(CUT);
                for (int i = 0; i < fixed; i++) skipPlanned(i);
                start(fixed, f);
            } else if (taking) {
                finish(CUT);
                startNext(f, true);
            } else {
                if (on != NONE && !holding && read(on, HAD) >= read(on, LENGTH)) finish(ENDED);
                if (on == NONE) startNext(f, false);
            }
            taking = false;
            give(f);
        }

        int clipAt(int f) {
            return given[f * GIVEN_COLUMNS + 2];
        }

        int frameAt(int f) {
            return given[f * GIVEN_COLUMNS + 3];
        }

        /** How many frames f is behind the first one of the row that was begun last. */
        int behindRow(int f) {
            return rowCount > 0 ? f - rowFirsts[rowCount - 1] : 0;
        }

        private int read(int event, int column) {
            return events[event * EVENT_COLUMNS + column];
        }

        /** FIXED ones come on at their frames in the row's order, so the first planned one is the next due. */
        private int firstPlanned(boolean fixedOnly) {
            for (int i = 0; i < count; i++) {
                if (read(i, STATE) == PLANNED && (!fixedOnly || read(i, KIND) == FIXED)) return i;
            }
            return NONE;
        }

        private void finish(int state) {
            if (on != NONE) events[on * EVENT_COLUMNS + STATE] = state;
            on = NONE;
        }

        private void start(int event, int f) {
            on = event;
            events[event * EVENT_COLUMNS + STATE] = ON;
            events[event * EVENT_COLUMNS + FIRST] = f;
        }

        private void startNext(int f, boolean taken) {
            int next = firstPlanned(false);
            if (next == NONE || read(next, KIND) == FIXED) return;
            if (taken || read(next, KIND) != MANUAL) start(next, f);
        }

        private void give(int f) {
            boolean first = on != NONE ? giveEvent(f) : giveFill(f);
            int used = player;
            if (f >= failFrom[player] && f < failTo[player]) {
                put(f, BLACK, NONE, NONE, NONE);
                left = 0;
                player = 1 - player;
            }
            given[f * GIVEN_COLUMNS + 4] = used;
            if (beginsRow(f, first)) rowFirsts[rowCount++] = f;
        }

        /** Whether it is the first frame of the event. */
        private boolean giveEvent(int f) {
            piece = NONE;
            int had = read(on, HAD), length = read(on, LENGTH), clip = read(on, CLIP);
            put(f, EVENT, on, clip, Math.min(had, length - 1) % Math.max(1, clips.lengths[clip]));
            left = read(on, KIND) == BREAK ? Math.max(0, length - had) : 0;
            events[on * EVENT_COLUMNS + HAD] = had + 1;
            return had == 0;
        }

        /** Whether it is the first frame of a piece. */
        private boolean giveFill(int f) {
            left = 0;
            boolean first = piece == NONE;
            if (first) {
                int fixed = firstPlanned(true);
                piece = clips.fillFor(fixed == NONE ? NONE : read(fixed, AT) - f);
                pieceFrame = 0;
            }
            if (piece == NONE) {
                put(f, BLACK, NONE, NONE, NONE);
                return false;
            }
            int clip = clips.fillClips[piece];
            put(f, FILL, piece, clip, pieceFrame++);
            if (pieceFrame >= clips.lengths[clip]) piece = NONE;
            return first;
        }

        private void put(int f, int what, int number, int clip, int clipFrame) {
            int g = f * GIVEN_COLUMNS;
            given[g] = what;
            given[g + 1] = number;
            given[g + 2] = clip;
            given[g + 3] = clipFrame;
        }

        private boolean beginsRow(int f, boolean first) {
            if (f == 0) return true;
            boolean black = given[f * GIVEN_COLUMNS] == BLACK;
            boolean blackBefore = given[(f - 1) * GIVEN_COLUMNS] == BLACK;
            return black != blackBefore || first && !black;
        }
    }

    /** One channel's units: their sizes, their bytes, and how much of them was sent. */
    private static final class Units {
        private static final int MADE = 1, SENT = 2, LATE = 3, DROPPED = 4;
        /** Columns of made, in the order in which they are told. */
        private static final int STATE = 0, SIZE = 1, KEY = 2, LEFT = 3, LAST = 4;
        static final int COLUMNS = 5;
        static final int HEADER = 14;
        static final int LONGEST = HEADER + 3000;
        /** VALUE is at most 100 * 3 * 100. */
        private static final int MOST_VALUE = 30000;

        private final int channel;
        private final long begin;
        final int[] made = new int[FRAMES * COLUMNS];
        private final byte[] bytes = new byte[DELAY * LONGEST];
        private final int[] sentOf = new int[DELAY];
        /** The sum of sentOf: what ROOM counts. */
        int held;
        int least = 100, greatest = 1500, weight = 10, allowed = 8000;
        boolean wanted = true, serving = true;
        private int key, value, size;

        Units(int channel, long begin) {
            this.channel = channel;
            this.begin = begin;
        }

        /** What was told of service counts now; whether that is a change. */
        boolean changeService(int f) {
            if (wanted == serving) return false;
            serving = wanted;
            if (!serving) leave(f);
            return true;
        }

        private void leave(int f) {
            for (int u = Math.max(0, f - DELAY); u < f; u++) {
                if (made[u * COLUMNS + STATE] == MADE) made[u * COLUMNS + STATE] = DROPPED;
            }
            Arrays.fill(sentOf, 0);
            held = 0;
        }

        void beginFrame(int f, Playout playout, Clips clips) {
            expire(f);
            made[f * COLUMNS + LAST] = NONE;
            if (!serving) return;
            key = keyOf(f, playout);
            int clip = playout.clipAt(f);
            value = (clip == NONE ? 1 : clips.efforts[clip]) * (key > 0 ? 3 : 1) * weight;
        }

        private void expire(int f) {
            int late = (f - DELAY) * COLUMNS + STATE;
            if (f >= DELAY && made[late] == MADE) made[late] = LATE;
            held -= sentOf[f % DELAY];
            sentOf[f % DELAY] = 0;
        }

        private int keyOf(int f, Playout playout) {
            int behind = playout.behindRow(f);
            if (behind == 0 || f == 0) return 2;
            return behind % 12 == 0 || made[(f - 1) * COLUMNS + STATE] == 0 ? 1 : 0;
        }

        static void share(Units[] all, int total) {
            int sum = nearestBelow(all, total);
            for (int i = 0; i < MOST_TOTAL && sum < total; i++) {
                Units next = nextToGrow(all);
                if (next == null) return;
                next.size++;
                sum++;
            }
        }

        /** Gives at once nearly all bytes that are due, as single ones would be thousands for a frame. */
        private static int nearestBelow(Units[] all, int total) {
            int low = 0, high = 3000 * MOST_VALUE;
            for (int i = 0; i < 32 && low < high; i++) {
                int middle = low + (high - low + 1) / 2;
                if (giveUpTo(all, middle) <= total) low = middle;
                else high = middle - 1;
            }
            return giveUpTo(all, low);
        }

        /** Gives all bytes for which SIZE / VALUE is at most limit / MOST_VALUE; their sum. */
        private static int giveUpTo(Units[] all, long limit) {
            int sum = 0;
            for (Units units : all) {
                if (!units.serving) continue;
                long wished = limit * units.value / MOST_VALUE;
                units.size = (int) Math.max(units.least, Math.min(units.greatest, wished));
                sum += units.size;
            }
            return sum;
        }

        private static Units nextToGrow(Units[] all) {
            Units next = null;
            for (Units units : all) {
                if (!units.serving || units.size >= units.greatest) continue;
                if (next == null || (units.size + 1) * next.value < (next.size + 1) * units.value) next = units;
            }
            return next;
        }

        void make(int f, Playout playout) {
            if (!serving) return;
            int m = f * COLUMNS;
            made[m + STATE] = MADE;
            made[m + SIZE] = size;
            made[m + KEY] = key;
            made[m + LEFT] = playout.left;
            int at = f % DELAY * LONGEST;
            putHeader(at, (begin + (long) TICKS * (f + DELAY)) % STAMPS);
            putBody(at + HEADER, f, playout);
        }

        private void putHeader(int at, long stamp) {
            Bytes.putFour(bytes, at, 480);
            Bytes.putTwo(bytes, at + 4, 8 + size);
            Bytes.putTwo(bytes, at + 6, 128 << 8 | 128);
            bytes[at + 8] = 5;
            bytes[at + 9] = (byte) (33 + 2 * (stamp >> 30 & 7));
            bytes[at + 10] = (byte) (stamp >> 22);
            bytes[at + 11] = (byte) (1 + 2 * (stamp >> 15 & 127));
            bytes[at + 12] = (byte) (stamp >> 7);
            bytes[at + 13] = (byte) (1 + 2 * (stamp & 127));
        }

        private void putBody(int at, int f, Playout playout) {
            int clip = playout.clipAt(f);
            Bytes.putTwo(bytes, at + 4, f);
            bytes[at + 6] = (byte) (clip == NONE ? 0 : 1 + clip);
            Bytes.putTwo(bytes, at + 7, clip == NONE ? 0 : playout.frameAt(f));
            bytes[at + 9] = (byte) key;
            Bytes.putTwo(bytes, at + 10, playout.left);
            int x = 65536 * channel + f;
            for (int i = 12; i < size; i++) {
                x = 1103515245 * x + 12345;
                bytes[at + i] = (byte) (x >> 16);
            }
            Bytes.putFour(bytes, at, Bytes.check(bytes, at + 4, at + size));
        }

        /** The frame of the first unit that is to be sent yet, in frame f. */
        int open(int f) {
            for (int u = Math.max(0, f - DELAY + 1); u <= f; u++) {
                if (made[u * COLUMNS + STATE] == MADE) return u;
            }
            return NONE;
        }

        boolean isBegun(int u) {
            return sentOf[u % DELAY] > 0;
        }

        boolean hasKey(int u) {
            return made[u * COLUMNS + KEY] > 0;
        }

        /** The next bytes of a unit; 0 if there is no room for them. */
        int nextBytes(int u, boolean clock) {
            int field = clock ? 8 : !isBegun(u) && hasKey(u) ? 2 : 0;
            int next = Math.min(PAYLOAD - field, HEADER + made[u * COLUMNS + SIZE] - sentOf[u % DELAY]);
            return held + next <= allowed ? next : 0;
        }

        void copyNext(int u, int next, byte[] to, int at, int packet) {
            int slot = u % DELAY;
            System.arraycopy(bytes, slot * LONGEST + sentOf[slot], to, at, next);
            sentOf[slot] += next;
            held += next;
            if (sentOf[slot] < HEADER + made[u * COLUMNS + SIZE]) return;
            made[u * COLUMNS + STATE] = SENT;
            made[u * COLUMNS + LAST] = packet;
        }
    }

    /** Makes the packets of the one stream, and keeps the latest. */
    private static final class Stream {
        private final int packets;
        private final long begin;
        private final Units[] makers;
        final byte[] kept = new byte[KEPT * PACKET];
        /** What is not written of a packet is 255. */
        private final byte[] blank = new byte[PACKET];
        /** Of PID 0, of the tables, of the channels. */
        private final int[] counters = new int[1 + 2 * CHANNELS];
        int count;
        int version;
        /** Where in kept the packet stands that is made. */
        private int at;

        Stream(int packets, long begin, Units[] makers) {
            this.packets = packets;
            this.begin = begin;
            this.makers = makers;
            Arrays.fill(blank, (byte) 255);
            Arrays.fill(counters, 15);
        }

        void changeService(int f) {
            boolean changed = false;
            for (Units units : makers) {
                if (units.changeService(f)) changed = true;
            }
            if (changed) version = version + 1 & 31;
        }

        /** The k-th packet of frame f. */
        void makePacket(int f, int k) {
            at = count % KEPT * PACKET;
            System.arraycopy(blank, 0, kept, at, PACKET);
            int serving = countServing();
            int tables = f % 4 == 0 ? 1 + serving : 0;
            if (k < tables && k == 0) makeList(serving);
            else if (k < tables) makeTable(servingAt(k - 1));
            else if (k < tables + serving) makeOfChannel(servingAt(k - tables), f, true);
            else makeNext(f);
            count++;
        }

        private int countServing() {
            int serving = 0;
            for (Units units : makers) if (units.serving) serving++;
            return serving;
        }

        /** The k-th channel of those in service. */
        private int servingAt(int k) {
            int passed = 0;
            for (int c = 0; c < CHANNELS; c++) {
                if (makers[c].serving && passed++ == k) return c;
            }
            return 0;
        }

        private void putHead(int pid, boolean starts, int marks, int counter) {
            kept[at] = 71;
            Bytes.putTwo(kept, at + 1, (starts ? STARTS << 8 : 0) | pid);
            kept[at + 3] = (byte) (marks | counter);
        }

        private int nextCounter(int of, boolean payload) {
            if (payload) counters[of] = counters[of] + 1 & 15;
            return counters[of];
        }

        private void makeList(int serving) {
            putHead(0, true, HAS_PAYLOAD, nextCounter(0, true));
            int list = at + 5;
            kept[at + 4] = 0;
            Bytes.putTwo(kept, list, 176);
            kept[list + 2] = (byte) (9 + 4 * serving);
            Bytes.putTwo(kept, list + 3, 1);
            kept[list + 5] = (byte) (193 + 2 * version);
            Bytes.putTwo(kept, list + 6, 0);
            int end = list + 8;
            for (int c = 0; c < CHANNELS; c++) {
                if (!makers[c].serving) continue;
                Bytes.putTwo(kept, end, c + 1);
                Bytes.putTwo(kept, end + 2, 57344 + TABLE_PID + PID_STEP * c);
                end += 4;
            }
            Bytes.putFour(kept, end, Bytes.check(kept, list, end));
        }

        private void makeTable(int c) {
            putHead(TABLE_PID + PID_STEP * c, true, HAS_PAYLOAD, nextCounter(1 + c, true));
            int table = at + 5;
            int pid = 57344 + CHANNEL_PID + PID_STEP * c;
            kept[at + 4] = 0;
            Bytes.putTwo(kept, table, 2 << 8 | 176);
            kept[table + 2] = 18;
            Bytes.putTwo(kept, table + 3, c + 1);
            kept[table + 5] = (byte) 193;
            Bytes.putTwo(kept, table + 6, 0);
            Bytes.putTwo(kept, table + 8, pid);
            Bytes.putTwo(kept, table + 10, 240 << 8);
            kept[table + 12] = 27;
            Bytes.putTwo(kept, table + 13, pid);
            Bytes.putTwo(kept, table + 15, 240 << 8);
            Bytes.putFour(kept, table + 17, Bytes.check(kept, table, table + 17));
        }

        private void makeNext(int f) {
            int next = NONE, earliest = FRAMES;
            for (int c = 0; c < CHANNELS; c++) {
                int u = makers[c].open(f);
                if (u == NONE || u >= earliest || makers[c].nextBytes(u, false) == 0) continue;
                next = c;
                earliest = u;
            }
            if (next == NONE) putHead(NULL_PID, false, HAS_PAYLOAD, 0);
            else makeOfChannel(next, f, false);
        }

        private void makeOfChannel(int c, int f, boolean clock) {
            Units units = makers[c];
            int u = units.open(f);
            int next = u == NONE ? 0 : units.nextBytes(u, clock);
            boolean starts = next > 0 && !units.isBegun(u);
            int field = PAYLOAD - next;
            int marks = (next > 0 ? HAS_PAYLOAD : 0) | (field > 0 ? HAS_FIELD : 0);
            putHead(CHANNEL_PID + PID_STEP * c, starts, marks, nextCounter(1 + CHANNELS + c, next > 0));
            putField(field, (starts && units.hasKey(u) ? KEY_FLAG : 0) | (clock ? CLOCK_FLAG : 0));
            if (next > 0) units.copyNext(u, next, kept, at + 4 + field, count);
        }

        private void putField(int k, int flags) {
            if (k > 0) kept[at + 4] = (byte) (k - 1);
            if (k > 1) kept[at + 5] = (byte) flags;
            if ((flags & CLOCK_FLAG) == 0) return;
            long bits = clockBits(count, packets, begin);
            Bytes.putTwo(kept, at + 6, (int) (bits >> 32));
            Bytes.putFour(kept, at + 8, (int) bits);
        }
    }

    /** What is told ahead of numbered things; the lowest number last, as that is the next to be gone. */
    private static final class Plan {
        private final int[] numbers = new int[MOST_TOLD];
        private final int[] values = new int[MOST_TOLD];
        int count;

        void add(int number, int value) {
            if (count >= MOST_TOLD) return;
            int i = count++;
            for (; i > 0 && numbers[i - 1] < number; i--) {
                numbers[i] = numbers[i - 1];
                values[i] = values[i - 1];
            }
            numbers[i] = number;
            values[i] = value;
        }

        /** One that was told of this number, which is told no more then; NONE if there is none. */
        int next(int number) {
            if (count == 0 || numbers[count - 1] != number) return NONE;
            return values[--count];
        }
    }

    /** Blocks of packets, what the path loses and alters of them, and the mending. */
    private static final class Path {
        private static final int MOST = 64;
        /** The stream's latest packets as they were sent: more than a block has. */
        private final byte[] kept;
        final byte[] came = new byte[MOST * PACKET];
        final boolean[] there = new boolean[MOST];
        final Plan losses = new Plan(), parityLosses = new Plan(), alterations = new Plan();
        int nextColumns = 5, nextLines = 4;
        private int columns = 5, lines = 4;
        /** The block that goes now, its first packet, and how many of it went. */
        int block, first, count;
        private int lostParities;
        int lost, mended;

        Path(byte[] kept) {
            this.kept = kept;
        }

        int lossesTold() {
            return losses.count + parityLosses.count;
        }

        void carry(int n) {
            if (count == 0) {
                columns = nextColumns;
                lines = nextLines;
            }
            if (count >= MOST) return;
            there[count] = true;
            for (int i = 0; i < MOST_TOLD && losses.next(n) != NONE; i++) there[count] = false;
            if (!there[count]) lost++;
            System.arraycopy(kept, n % KEPT * PACKET, came, count * PACKET, PACKET);
            alterPacket(n);
            count++;
        }

        private void alterPacket(int n) {
            int told = alterations.next(n);
            for (int i = 0; i < MOST_TOLD && told != NONE; i++) {
                came[count * PACKET + (told >> 8)] ^= (byte) told;
                told = alterations.next(n);
            }
        }

        boolean isBlockFull() {
            return count == columns * lines;
        }

        void closeBlock() {
            first += count;
            count = 0;
            block++;
        }

        void mend() {
            lostParities = 0;
            int parity = parityLosses.next(block);
            for (int i = 0; i < MOST_TOLD && parity != NONE; i++) {
                lostParities |= 1 << parity;
                parity = parityLosses.next(block);
            }
            for (int i = 0; i < MOST && mendOne(); i++) mended++;
        }

        private boolean mendOne() {
            for (int l = 0; l < lines; l++) {
                if ((lostParities >> l & 1) == 0 && mendGroup(l * columns, 1, columns)) return true;
            }
            for (int c = 0; c < columns; c++) {
                if ((lostParities >> lines + c & 1) == 0 && mendGroup(c, columns, lines)) return true;
            }
            return false;
        }

        /** Mends the packet of a line or a column, if just that is missing. */
        private boolean mendGroup(int from, int step, int size) {
            int missing = NONE;
            for (int i = 0; i < size; i++) {
                int k = from + i * step;
                if (there[k]) continue;
                if (missing != NONE) return false;
                missing = k;
            }
            if (missing == NONE) return false;
            System.arraycopy(kept, (first + missing) % KEPT * PACKET, came, missing * PACKET, PACKET);
            for (int i = 0; i < size; i++) {
                int k = from + i * step;
                if (k != missing) addDifference(k, missing);
            }
            there[missing] = true;
            return true;
        }

        /** The parity is of the packets as sent, so what is mended differs by what the others came with. */
        private void addDifference(int k, int missing) {
            int sentAt = (first + k) % KEPT * PACKET;
            for (int i = 0; i < PACKET; i++) {
                came[missing * PACKET + i] ^= (byte) (kept[sentAt + i] ^ came[k * PACKET + i]);
            }
        }
    }

    /** Looks at each packet that comes, counts the faults, and hands the channels' bytes on. */
    private static final class Judge {
        static final int LAST_FAULT = 8;
        private static final int PIDS = 8192;
        /** Whose a PID is: 0 the list, then the channels' tables, then the channels. */
        private static final int FIRST_TABLE = 1, FIRST_CHANNEL = 1 + CHANNELS;

        private final int packets;
        private final long begin;
        private final Receiver[] receivers;
        private final byte[] bytes;
        private final int[] counters = new int[PIDS];
        /** Of each fault; all of them at 0. */
        final int[] counts = new int[LAST_FAULT + 1];
        int firstPacket = NONE, firstNumber = NONE;
        /** Frames that are over. */
        int over;
        private final int[] listed = new int[CHANNELS];
        /** The packet that is looked at, where it stands, and where its payload begins. */
        private int n, at, payload;

        Judge(int packets, long begin, Receiver[] receivers, byte[] bytes) {
            this.packets = packets;
            this.begin = begin;
            this.receivers = receivers;
            this.bytes = bytes;
            Arrays.fill(counters, NONE);
        }

        void look(int packet, int from) {
            n = packet;
            at = from;
            if (Bytes.one(bytes, at) != 71 || (bytes[at + 1] & 128) != 0) {
                fault(1);
                return;
            }
            if (!isFieldRight()) {
                fault(2);
                return;
            }
            int pid = Bytes.two(bytes, at + 1) & NULL_PID;
            int owner = ownerOf(pid);
            if (owner == NONE) return;
            boolean counted = isCounterRight(pid);
            if (!counted) fault(3);
            if (owner >= FIRST_CHANNEL) lookAtChannel(receivers[owner - FIRST_CHANNEL], counted);
            else if (has(HAS_PAYLOAD)) lookAtTable(owner);
        }

        private void fault(int number) {
            counts[number]++;
            counts[0]++;
            if (firstNumber != NONE) return;
            firstNumber = number;
            firstPacket = n;
        }

        private boolean has(int mark) {
            return (bytes[at + 3] & mark) != 0;
        }

        private boolean hasClock() {
            return has(HAS_FIELD) && bytes[at + 4] != 0 && (bytes[at + 5] & CLOCK_FLAG) != 0;
        }

        private boolean isFieldRight() {
            payload = at + 4;
            if (!has(HAS_FIELD)) return has(HAS_PAYLOAD);
            int behind = Bytes.one(bytes, at + 4);
            if (behind > (has(HAS_PAYLOAD) ? 182 : 183)) return false;
            payload += 1 + behind;
            return behind >= 7 || !hasClock();
        }

        private int ownerOf(int pid) {
            if (pid == 0) return 0;
            for (int c = 0; c < CHANNELS; c++) if (receivers[c].tablePid == pid) return FIRST_TABLE + c;
            for (int c = 0; c < CHANNELS; c++) if (receivers[c].pid == pid) return FIRST_CHANNEL + c;
            return NONE;
        }

        private boolean isCounterRight(int pid) {
            int before = counters[pid];
            int counter = bytes[at + 3] & 15;
            counters[pid] = counter;
            if (before == NONE) return true;
            return counter == (has(HAS_PAYLOAD) ? before + 1 & 15 : before);
        }

        private void lookAtChannel(Receiver receiver, boolean counted) {
            if (!counted) receiver.drop();
            if (hasClock()) lookAtClock(receiver);
            if (!has(HAS_PAYLOAD)) return;
            if ((bytes[at + 1] & STARTS) != 0) {
                if (receiver.isCollecting()) fault(7);
                receiver.drop();
            } else if (!receiver.isCollecting()) {
                return;
            }
            boolean right = receiver.collect(bytes, payload, at + PACKET - payload);
            if (right && receiver.isWhole()) right = receiver.decode(over);
            if (!right) fault(8);
        }

        private void lookAtClock(Receiver receiver) {
            long bits = (long) Bytes.two(bytes, at + 6) << 32 | Bytes.four(bytes, at + 8) & 0xFFFFFFFFL;
            if (bits != clockBits(n, packets, begin)) fault(4);
            if (receiver.clockAt != NONE && n - receiver.clockAt > 3 * packets) fault(5);
            receiver.clockAt = n;
        }

        private void lookAtTable(int owner) {
            int table = payload + 1;
            if (!isTableRight(owner, table)) fault(6);
            else if (owner == 0) readList(table);
            else receivers[owner - FIRST_TABLE].learnPid(Bytes.two(bytes, table + 13) & NULL_PID);
        }

        private boolean isTableRight(int owner, int table) {
            int size = at + PACKET - payload;
            if ((bytes[at + 1] & STARTS) == 0 || size < 4 || bytes[payload] != 0) return false;
            if (bytes[table] != (owner == 0 ? 0 : 2)) return false;
            int z = Bytes.two(bytes, table + 1) & 4095;
            if (z + 4 > size) return false;
            if (owner == 0 && (z < 9 || (z - 9) % 4 != 0)) return false;
            if (owner != 0 && (z != 18 || Bytes.two(bytes, table + 3) != owner - FIRST_TABLE + 1)) return false;
            int end = table + z - 1;
            return Bytes.four(bytes, end) == Bytes.check(bytes, table, end);
        }

        private void readList(int list) {
            Arrays.fill(listed, NONE);
            int end = list + (Bytes.two(bytes, list + 1) & 4095) - 1;
            for (int i = list + 8; i + 4 <= end; i += 4) {
                int c = Bytes.two(bytes, i) - 1;
                if (c >= 0 && c < CHANNELS) listed[c] = Bytes.two(bytes, i + 2) & NULL_PID;
            }
            for (int c = 0; c < CHANNELS; c++) receivers[c].learnTable(listed[c]);
        }
    }

    /** One channel as it is received: the unit that is collected, what is shown, and alarms. */
    private static final class Receiver {
        /** Columns of screen; the first three in the order in which they are told. */
        private static final int DECODED = 0, CLIP = 1, FRAME = 2, KEY = 3, LEFT = 4;
        static final int COLUMNS = 5;
        /** Columns of alarms: kind, began, ended. */
        static final int ALARM_COLUMNS = 3;
        /** One of kind 0 takes eleven frames, of kind 1 six. */
        private static final int MOST_ALARMS = FRAMES / 11 + FRAMES / 6 + 2;
        private static final int BLACK_FRAMES = 10, FREEZE_FRAMES = 5;

        private final long begin;
        int tablePid = NONE, pid = NONE;
        int clockAt = NONE;
        private final byte[] bytes = new byte[Units.LONGEST + PAYLOAD];
        private int count;
        private int lastRight = NONE;
        /** Not NONE, which is the frame before 0. */
        private int lastDecoded = -2;
        final int[] screen = new int[FRAMES * COLUMNS];
        final int[] alarms = new int[MOST_ALARMS * ALARM_COLUMNS];
        int alarmCount;
        /** By the alarm's kind: for how many frames that is so, and the alarm that goes on. */
        private final int[] runs = new int[2];
        private final int[] open = {NONE, NONE};

        Receiver(long begin) {
            this.begin = begin;
        }

        boolean isCollecting() {
            return count > 0;
        }

        void drop() {
            count = 0;
        }

        /** What a list tells of the channel: the PID of its table, or NONE. */
        void learnTable(int newPid) {
            if (newPid == tablePid) return;
            tablePid = newPid;
            learnPid(NONE);
        }

        void learnPid(int newPid) {
            if (newPid == pid) return;
            pid = newPid;
            clockAt = NONE;
            count = 0;
        }

        /** Takes some bytes more; false if these can be no unit's, and then nothing is collected. */
        boolean collect(byte[] from, int at, int size) {
            boolean right = size >= 0 && count + size <= bytes.length;
            if (right) {
                System.arraycopy(from, at, bytes, count, size);
                count += size;
                right = count < 6 || isBeginningRight();
            }
            if (!right) count = 0;
            return right;
        }

        private boolean isBeginningRight() {
            int rest = Bytes.two(bytes, 4);
            return Bytes.four(bytes, 0) == 480 && rest >= 24 && rest <= 3008 && count <= 6 + rest;
        }

        boolean isWhole() {
            return count >= 6 && count == 6 + Bytes.two(bytes, 4);
        }

        /** Ends the collecting of a whole unit; false if that is not right. */
        boolean decode(int over) {
            int end = count;
            count = 0;
            if (Bytes.two(bytes, 6) != (128 << 8 | 128) || bytes[8] != 5) return false;
            if ((bytes[9] & 241) != 33 || (bytes[11] & 1) == 0 || (bytes[13] & 1) == 0) return false;
            long since = Math.floorMod(readStamp() - begin, STAMPS);
            long frame = since / TICKS - DELAY;
            if (since % TICKS != 0 || frame < over || frame >= FRAMES || frame <= lastRight) return false;
            if (Bytes.four(bytes, 14) != Bytes.check(bytes, 18, end)) return false;
            if (Bytes.two(bytes, 18) != frame || Bytes.one(bytes, 23) > 2 || Bytes.one(bytes, 20) > 16) return false;
            lastRight = (int) frame;
            if (bytes[23] > 0 || lastDecoded == lastRight - 1) show(lastRight);
            return true;
        }

        private long readStamp() {
            long s = bytes[9] >> 1 & 7;
            s = s << 8 | Bytes.one(bytes, 10);
            s = s << 7 | bytes[11] >> 1 & 127;
            s = s << 8 | Bytes.one(bytes, 12);
            return s << 7 | bytes[13] >> 1 & 127;
        }

        private void show(int f) {
            lastDecoded = f;
            int s = f * COLUMNS;
            int clip = bytes[20] - 1;
            screen[s + DECODED] = 1;
            screen[s + CLIP] = clip;
            screen[s + FRAME] = clip == NONE ? NONE : Bytes.two(bytes, 21);
            screen[s + KEY] = bytes[23];
            screen[s + LEFT] = Bytes.two(bytes, 24);
        }

        boolean isDecoded(int f) {
            return screen[f * COLUMNS + DECODED] == 1;
        }

        boolean decodedAs(int f, int clip, int clipFrame) {
            int s = f * COLUMNS;
            return isDecoded(f) && screen[s + CLIP] == clip && screen[s + FRAME] == clipFrame;
        }

        int keyOf(int f) {
            return screen[f * COLUMNS + KEY];
        }

        int leftOf(int f) {
            return screen[f * COLUMNS + LEFT];
        }

        void finishFrame(int f) {
            int s = f * COLUMNS;
            if (!isDecoded(f)) {
                screen[s + CLIP] = f == 0 ? NONE : screen[s - COLUMNS + CLIP];
                screen[s + FRAME] = f == 0 ? NONE : screen[s - COLUMNS + FRAME];
            }
            watch(0, screen[s + CLIP] == NONE, BLACK_FRAMES, f);
            watch(1, !isDecoded(f), FREEZE_FRAMES, f);
        }

        private void watch(int kind, boolean so, int needed, int f) {
            runs[kind] = so ? runs[kind] + 1 : 0;
            if (!so && open[kind] != NONE) {
                alarms[open[kind] * ALARM_COLUMNS + 2] = f;
                open[kind] = NONE;
            }
            if (runs[kind] != needed || alarmCount >= MOST_ALARMS) return;
            int a = alarmCount * ALARM_COLUMNS;
            alarms[a] = kind;
            alarms[a + 1] = f;
            alarms[a + 2] = NONE;
            open[kind] = alarmCount++;
        }
    }

    /** The region: it shows channel 0, or its own pieces in a break. */
    private static final class Region {
        static final int COLUMNS = 2;
        private static final int LONGEST_LOCAL = 1000;
        final Closing locals = new Closing(Closing.PIECES * LONGEST_LOCAL);
        final int[] screen = new int[FRAMES * COLUMNS];
        private boolean out;
        private final int[] pieces = new int[Closing.PIECES];
        private int pieceCount, piece, pieceFrame;

        void finishFrame(int f, Receiver main) {
            boolean decoded = main.isDecoded(f);
            int left = main.leftOf(f);
            if (piece >= pieceCount || decoded && left == 0) out = false;
            if (!out && decoded && main.keyOf(f) == 2 && left > 0) out = choosePieces(left);
            screen[f * COLUMNS] = out ? 1 + pieces[piece] : 0;
            screen[f * COLUMNS + 1] = out ? pieceFrame : NONE;
            if (out) step();
        }

        private boolean choosePieces(int left) {
            int rest = left;
            piece = 0;
            pieceFrame = 0;
            for (pieceCount = 0; pieceCount < pieces.length && rest > 0; pieceCount++) {
                int next = locals.firstPiece(rest);
                if (next == NONE) return false;
                pieces[pieceCount] = next;
                rest -= locals.lengths[next];
            }
            return rest == 0;
        }

        private void step() {
            pieceFrame++;
            if (pieceFrame < locals.lengths[pieces[piece]]) return;
            piece++;
            pieceFrame = 0;
        }
    }
}
