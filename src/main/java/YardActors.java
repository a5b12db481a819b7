/**
 * Actors of a yard that send one another values by channels of little room.
 * They act in any order; what comes out in the end is the same.
 */
public final class YardActors {
    public static final int NONE = -1;

    private static final long NO_VALUE = Long.MIN_VALUE;

    private static final int SOURCE = 0;
    private static final int MAP = 1;
    private static final int SPLIT = 2;
    private static final int MERGE = 3;
    private static final int SUM = 4;
    private static final int DELAY = 5;
    private static final int SINK = 6;
    private static final int GATE = 7;
    private static final int COPY = 8;
    private static final int KINDS = 9;

    private static final int MOST_ACTORS = 10;
    private static final int MOST_CHANNELS = 16;
    private static final int MOST_ENDS = 2;
    private static final int MOST_TOLD = 20;
    private static final int MOST_KEPT = 60;
    private static final int MOST_TIMES = 100;
    private static final int MOST_STEPS = 2000;
    private static final int MOST_ROOM = 8;
    private static final int RING_MASK = MOST_ROOM - 1;

    private static final long FACTOR = 6364136223846793005L;
    private static final long ADDEND = 1442695040888963407L;

    // By kind: how many ins and outs, and how many values are told or kept.
    private static final int[] INS = {0, 1, 1, 2, 2, 1, 1, 2, 1};
    private static final int[] OUTS = {1, 1, 2, 1, 1, 1, 0, 1, 2};
    private static final int[] ROWS = {MOST_TOLD, 0, 0, 0, 0, 0, MOST_KEPT, 0, 0};

    private final Yard now;
    private final Yard last;
    // Acting never changes how all ends, so only what is built or told makes 'last' stale.
    private boolean lastIsSettled;

    public YardActors() {
        now = new Yard();
        last = new Yard();
        lastIsSettled = false;
    }

    public int actor(int kind, int a, int b) {
        int made = now.addActor(kind, a, b);
        if (made != NONE) {
            last.addActor(kind, a, b);
            lastIsSettled = false;
        }
        return made;
    }

    public boolean value(int source, int v) {
        Actor found = now.findKind(source, SOURCE);
        if (found == null || !found.tell(v)) {
            return false;
        }
        lastIsSettled = false;
        return true;
    }

    public int channel(int from, int out, int to, int in, int room) {
        int made = now.join(from, out, to, in, room);
        if (made != NONE) {
            last.join(from, out, to, in, room);
            lastIsSettled = false;
        }
        return made;
    }

    public boolean can(int actor) {
        Actor found = now.findActor(actor);
        return found != null && found.isReady();
    }

    public boolean act(int actor) {
        Actor found = now.findActor(actor);
        if (found == null || !found.isReady()) {
            return false;
        }
        found.step();
        return true;
    }

    public int run(long seed, int most) {
        if (most < 0 || most > MOST_STEPS) {
            return NONE;
        }
        return now.stepBySeed(seed, most);
    }

    public int acted(int actor) {
        return timesOf(now.findActor(actor));
    }

    public int kept(int sink) {
        return timesOf(now.findKind(sink, SINK));
    }

    public long at(int sink, int k) {
        return keptValue(now.findKind(sink, SINK), k);
    }

    public int waits(int channel) {
        Channel found = now.findChannel(channel);
        return found == null ? NONE : found.size();
    }

    public long waiting(int channel, int k) {
        Channel found = now.findChannel(channel);
        if (found == null || k < 0 || k >= found.size()) {
            return NO_VALUE;
        }
        return found.peek(k);
    }

    public int keptAtLast(int sink) {
        return timesOf(settled().findKind(sink, SINK));
    }

    public long atLast(int sink, int k) {
        return keptValue(settled().findKind(sink, SINK), k);
    }

    public int actedAtLast(int actor) {
        return timesOf(settled().findActor(actor));
    }

    public int fullAtLast(int k) {
        return settled().findFull(k);
    }

    private Yard settled() {
        if (!lastIsSettled) {
            last.copyFrom(now);
            last.settle();
            lastIsSettled = true;
        }
        return last;
    }

    // A sink keeps one value each time it acts, so this tells how many it kept, too.
    private static int timesOf(Actor found) {
        return found == null ? NONE : found.times();
    }

    private static long keptValue(Actor sink, int k) {
        if (sink == null || k < 0 || k >= sink.times()) {
            return NO_VALUE;
        }
        return sink.rowValue(k);
    }

    /** The values on their way from an out to an in. */
    private static final class Channel {
        private final int room;
        private final int[] ring;
        private int first;
        private int count;

        Channel(int room) {
            this.room = room;
            ring = new int[MOST_ROOM];
            first = 0;
            count = 0;
        }

        int size() {
            return count;
        }

        boolean isFull() {
            return count >= room;
        }

        int peek(int k) {
            return ring[(first + k) & RING_MASK];
        }

        void put(int v) {
            ring[(first + count) & RING_MASK] = v;
            count++;
        }

        int take() {
            int v = ring[first & RING_MASK];
            first = (first + 1) & RING_MASK;
            count--;
            return v;
        }

        void copyFrom(Channel other) {
            System.arraycopy(other.ring, 0, ring, 0, MOST_ROOM);
            first = other.first;
            count = other.count;
        }
    }

    /** One actor. How often it acted tells its turn, and which value of its row is next. */
    private static final class Actor {
        private final int kind;
        private final int a;
        private final int b;
        private final Channel[] ins;
        private final Channel[] outs;
        // What a source was told, or what a sink kept.
        private final int[] row;
        private int told;
        private int times;

        Actor(int kind, int a, int b) {
            this.kind = kind;
            this.a = a;
            this.b = b;
            ins = new Channel[MOST_ENDS];
            outs = new Channel[MOST_ENDS];
            row = new int[ROWS[kind]];
            told = 0;
            times = 0;
        }

        boolean isKind(int asked) {
            return kind == asked;
        }

        int times() {
            return times;
        }

        int rowValue(int k) {
            return k >= 0 && k < row.length ? row[k] : 0;
        }

        boolean tell(int v) {
            if (told >= row.length) {
                return false;
            }
            row[told] = v;
            told++;
            return true;
        }

        boolean hasFreeIn(int in) {
            return in >= 0 && in < INS[kind] && ins[in] == null;
        }

        boolean hasFreeOut(int out) {
            return out >= 0 && out < OUTS[kind] && outs[out] == null;
        }

        void joinIn(int in, Channel channel) {
            ins[in] = channel;
        }

        void joinOut(int out, Channel channel) {
            outs[out] = channel;
        }

        boolean isReady() {
            if (times >= MOST_TIMES) {
                return false;
            }
            switch (kind) {
                case SOURCE:
                    return times < told && hasRoom(0);
                case MAP:
                    return hasValue(0) && hasRoom(0);
                case SPLIT:
                    return hasValue(0) && hasRoom(turn());
                case MERGE:
                    return hasValue(turn()) && hasRoom(0);
                case SUM:
                    return hasValue(0) && hasValue(1) && hasRoom(0);
                case DELAY:
                    return (times == 0 || hasValue(0)) && hasRoom(0);
                case SINK:
                    return hasValue(0) && times < MOST_KEPT;
                case GATE:
                    return hasValue(0) && hasValue(1) && (isZero(0) || hasRoom(0));
                case COPY:
                    return hasValue(0) && hasRoom(0) && hasRoom(1);
                default:
                    return false;
            }
        }

        // For an actor that is ready alone.
        void step() {
            switch (kind) {
                case SOURCE:
                    give(0, rowValue(times));
                    break;
                case MAP:
                    give(0, take(0) * a + b);
                    break;
                case SPLIT:
                    give(turn(), take(0));
                    break;
                case MERGE:
                    give(0, take(turn()));
                    break;
                case SUM:
                    give(0, take(0) + take(1));
                    break;
                case DELAY:
                    give(0, times == 0 ? a : take(0));
                    break;
                case SINK:
                    keep(take(0));
                    break;
                case GATE:
                    boolean open = take(0) != 0;
                    int passed = take(1);
                    if (open) {
                        give(0, passed);
                    }
                    break;
                case COPY:
                    int copied = take(0);
                    give(0, copied);
                    give(1, copied);
                    break;
                default:
                    break;
            }
            times++;
        }

        private int turn() {
            return times & 1;
        }

        private boolean hasValue(int in) {
            Channel channel = ins[in];
            return channel != null && channel.size() > 0;
        }

        private boolean isZero(int in) {
            Channel channel = ins[in];
            return channel != null && channel.peek(0) == 0;
        }

        private boolean hasRoom(int out) {
            Channel channel = outs[out];
            return channel == null || !channel.isFull();
        }

        private int take(int in) {
            Channel channel = ins[in];
            return channel == null ? 0 : channel.take();
        }

        private void give(int out, int v) {
            Channel channel = outs[out];
            if (channel != null) {
                channel.put(v);
            }
        }

        private void keep(int v) {
            if (times < row.length) {
                row[times] = v;
            }
        }

        void copyFrom(Actor other) {
            System.arraycopy(other.row, 0, row, 0, Math.min(other.row.length, row.length));
            told = other.told;
            times = other.times;
        }
    }

    /** All actors and channels as they are at one time. */
    private static final class Yard {
        private final Actor[] actors;
        private final Channel[] channels;
        // Made once, used again for each draw.
        private final int[] ready;
        private int actorCount;
        private int channelCount;

        Yard() {
            actors = new Actor[MOST_ACTORS];
            channels = new Channel[MOST_CHANNELS];
            ready = new int[MOST_ACTORS];
            actorCount = 0;
            channelCount = 0;
        }

        int addActor(int kind, int a, int b) {
            if (kind < 0 || kind >= KINDS || actorCount >= MOST_ACTORS) {
                return NONE;
            }
            actors[actorCount] = new Actor(kind, a, b);
            actorCount++;
            return actorCount - 1;
        }

        int join(int from, int out, int to, int in, int room) {
            Actor giver = findActor(from);
            Actor taker = findActor(to);
            if (giver == null || taker == null || channelCount >= MOST_CHANNELS) {
                return NONE;
            }
            if (room < 1 || room > MOST_ROOM || !giver.hasFreeOut(out) || !taker.hasFreeIn(in)) {
                return NONE;
            }
            Channel made = new Channel(room);
            giver.joinOut(out, made);
            taker.joinIn(in, made);
            channels[channelCount] = made;
            channelCount++;
            return channelCount - 1;
        }

        Actor findActor(int number) {
            return number >= 0 && number < actorCount ? actors[number] : null;
        }

        Actor findKind(int number, int kind) {
            Actor found = findActor(number);
            return found != null && found.isKind(kind) ? found : null;
        }

        Channel findChannel(int number) {
            return number >= 0 && number < channelCount ? channels[number] : null;
        }

        int findFull(int k) {
            int seen = 0;
            for (int i = 0; i < channelCount; i++) {
                Channel channel = findChannel(i);
                if (channel != null && channel.isFull()) {
                    if (seen == k) {
                        return i;
                    }
                    seen++;
                }
            }
            return NONE;
        }

        int stepBySeed(long seed, int most) {
            long x = seed;
            int done = 0;
            for (int i = 0; i < most; i++) {
                x = x * FACTOR + ADDEND;
                if (!stepDrawn(x >>> 33)) {
                    break;
                }
                done++;
            }
            return done;
        }

        private boolean stepDrawn(long draw) {
            int n = listReady();
            if (n <= 0) {
                return false;
            }
            int place = (int) (draw % n);
            if (place < 0 || place >= MOST_ACTORS) {
                return false;
            }
            Actor drawn = findActor(ready[place]);
            if (drawn == null) {
                return false;
            }
            drawn.step();
            return true;
        }

        private int listReady() {
            int n = 0;
            for (int i = 0; i < actorCount; i++) {
                Actor found = findActor(i);
                if (found != null && found.isReady()) {
                    ready[n] = i;
                    n++;
                }
            }
            return n;
        }

        // A round in which nobody acts is the last; every other round uses up an act.
        void settle() {
            for (int round = 0; round <= MOST_ACTORS * MOST_TIMES; round++) {
                if (!stepRound()) {
                    break;
                }
            }
        }

        private boolean stepRound() {
            boolean any = false;
            for (int i = 0; i < actorCount; i++) {
                Actor found = findActor(i);
                for (int j = 0; j < MOST_TIMES; j++) {
                    if (found == null || !found.isReady()) {
                        break;
                    }
                    found.step();
                    any = true;
                }
            }
            return any;
        }

        void copyFrom(Yard other) {
            for (int i = 0; i < actorCount; i++) {
                Actor mine = findActor(i);
                Actor theirs = other.findActor(i);
                if (mine != null && theirs != null) {
                    mine.copyFrom(theirs);
                }
            }
            for (int i = 0; i < channelCount; i++) {
                Channel mine = findChannel(i);
                Channel theirs = other.findChannel(i);
                if (mine != null && theirs != null) {
                    mine.copyFrom(theirs);
                }
            }
        }
    }
}
