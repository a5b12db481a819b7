/** Each promise of the document by itself: ordinary inputs, edges and wrong inputs. */
public final class PromisesTest extends Boundaries {
    private static int wrong = 0;
    private static String part = "";

    public static void main(String[] args) {
        promise1NewObject();
        promise2Actor();
        promise3Value();
        promise4Channel();
        promise4MostChannels();
        promise5And6Source();
        promise5And6Map();
        promise5And6Split();
        promise5And6Merge();
        promise5And6Sum();
        promise5And6Delay();
        promise5And6Sink();
        promise5And6Gate();
        promise5And6Copy();
        promise5And6OwnChannel();
        promise5And6MostTimes();
        promise7RunDraws();
        promise7RunEdges();
        promise8Acted();
        promise9And10Kept();
        promise11And12Waiting();
        promises13To16Settled();
        promises13To16AfterChanges();
        promises13To16FromTheMidst();
        promise16Full();
        objectsAreApart();
        exampleOfTheReadme();
        System.out.println(wrong == 0 ? "all promises hold" : wrong + " answers are not as due");
        if (wrong != 0) {
            System.exit(1);
        }
    }

    private static void promise1NewObject() {
        part = "promise 1";
        YardActors x = new YardActors();
        for (int n = -1; n <= 16; n++) {
            due("acted", x.acted(n), NONE);
            due("waits", x.waits(n), NONE);
            due("kept", x.kept(n), NONE);
            due("can", x.can(n), false);
            due("actedAtLast", x.actedAtLast(n), NONE);
            due("fullAtLast", x.fullAtLast(n), NONE);
        }
        due("run", x.run(1L, 2000), 0);
        due("first actor", x.actor(SINK, 0, 0), 0);
    }

    private static void promise2Actor() {
        part = "promise 2";
        YardActors x = new YardActors();
        int[] wrongKinds = {-1, 9, 10, MIN, MAX};
        for (int kind : wrongKinds) {
            due("wrong kind", x.actor(kind, 1, 1), NONE);
        }
        due("nothing made", x.acted(0), NONE);
        for (int kind = 0; kind <= 8; kind++) {
            due("kind " + kind, x.actor(kind, MIN, MAX), kind);
            due("acted", x.acted(kind), 0);
        }
        due("wrong kind behind nine", x.actor(9, 0, 0), NONE);
        due("the tenth", x.actor(MAP, 0, 0), 9);
        for (int kind = -1; kind <= 9; kind++) {
            due("an eleventh", x.actor(kind, 0, 0), NONE);
        }
        due("there is none", x.acted(10), NONE);
        for (int kind = 0; kind <= 8; kind++) {
            due("kept of kind " + kind, x.kept(kind), kind == SINK ? 0 : NONE);
        }
    }

    private static void promise3Value() {
        part = "promise 3";
        YardActors x = new YardActors();
        due("no actor", x.value(0, 1), false);
        for (int kind = 0; kind <= 8; kind++) {
            x.actor(kind, 0, 0);
            due("told kind " + kind, x.value(kind, 5), kind == SOURCE);
        }
        due("below", x.value(-1, 5), false);
        due("behind", x.value(9, 5), false);
        due("far below", x.value(MIN, 5), false);
        due("far behind", x.value(MAX, 5), false);
        for (int k = 1; k < 20; k++) {
            due("told " + k, x.value(0, k), true);
        }
        due("told 20 already", x.value(0, 20), false);
        due("acts", x.act(0), true);
        due("told 20, though one is given", x.value(0, 20), false);
        due("run", x.run(4L, 2000), 20);
        due("told 20, though all are given", x.value(0, 20), false);
        due("acted", x.acted(0), 20);
    }

    private static void promise4Channel() {
        part = "promise 4";
        for (int kind = 0; kind <= 8; kind++) {
            for (int end = -1; end <= 3; end++) {
                YardActors x = new YardActors();
                x.actor(kind, 0, 0);
                x.actor(COPY, 0, 0);
                due("kind " + kind + " out " + end, x.channel(0, end, 1, 0, 1),
                        end >= 0 && end < OUTS[kind] ? 0 : NONE);
                YardActors y = new YardActors();
                y.actor(COPY, 0, 0);
                y.actor(kind, 0, 0);
                due("kind " + kind + " in " + end, y.channel(0, 0, 1, end, 1),
                        end >= 0 && end < INS[kind] ? 0 : NONE);
            }
        }
        YardActors x = new YardActors();
        x.actor(COPY, 0, 0);
        x.actor(MERGE, 0, 0);
        int[] wrongActors = {-1, 2, 10, MIN, MAX};
        for (int n : wrongActors) {
            due("from " + n, x.channel(n, 0, 1, 0, 1), NONE);
            due("to " + n, x.channel(0, 0, n, 0, 1), NONE);
            due("out " + n, x.channel(0, n, 1, 0, 1), NONE);
            due("in " + n, x.channel(0, 0, 1, n, 1), NONE);
        }
        int[] wrongRooms = {0, 9, -1, MIN, MAX};
        for (int room : wrongRooms) {
            due("room " + room, x.channel(0, 0, 1, 0, room), NONE);
        }
        due("room 8", x.channel(0, 0, 1, 0, 8), 0);
        due("out is used", x.channel(0, 0, 1, 1, 1), NONE);
        due("in is used", x.channel(0, 1, 1, 0, 1), NONE);
        due("both are used", x.channel(0, 0, 1, 0, 1), NONE);
        due("the others", x.channel(0, 1, 1, 1, 1), 1);
        due("no actors at all", new YardActors().channel(0, 0, 0, 0, 1), NONE);
        due("back", x.channel(1, 0, 0, 0, 3), 2);
    }

    // Ten actors have 30 ins and outs at most, so that 15 channels are the most that can be.
    private static void promise4MostChannels() {
        part = "promise 4, many";
        YardActors x = new YardActors();
        for (int i = 0; i < 5; i++) {
            x.actor(COPY, 0, 0);
            x.actor(MERGE, 0, 0);
        }
        int made = 0;
        for (int i = 0; i < 5; i++) {
            due("copy to merge", x.channel(2 * i, 0, 2 * i + 1, 0, 1), made++);
            due("copy to merge", x.channel(2 * i, 1, 2 * i + 1, 1, 2), made++);
            due("merge to copy", x.channel(2 * i + 1, 0, (2 * i + 2) % 10, 0, 3), made++);
        }
        for (int channel = 0; channel < 15; channel++) {
            due("waits", x.waits(channel), 0);
        }
        due("waits behind", x.waits(15), NONE);
        for (int from = 0; from < 10; from++) {
            for (int to = 0; to < 10; to++) {
                due("no end is left", x.channel(from, from % 2 == 0 ? 1 : 0, to, 0, 1), NONE);
            }
        }
    }

    private static void promise5And6Source() {
        part = "source";
        YardActors x = new YardActors();
        due("no actor can", x.can(0), false);
        due("no actor acts", x.act(0), false);
        x.actor(SOURCE, 5, 6);
        x.actor(SINK, 0, 0);
        x.channel(0, 0, 1, 0, 2);
        due("nothing told", x.can(0), false);
        due("nothing told", x.act(0), false);
        tell(x, 0, MIN, MAX, -7);
        due("can", x.can(0), true);
        due("acts", x.act(0), true);
        due("acts", x.act(0), true);
        due("no room", x.can(0), false);
        due("no room", x.act(0), false);
        dueWaiting(x, 0, MIN, MAX);
        due("the sink acts", x.act(1), true);
        due("acts", x.act(0), true);
        dueWaiting(x, 0, MAX, -7);
        due("the sink acts", x.act(1), true);
        due("none is left", x.can(0), false);
        due("none is left", x.act(0), false);
        int[] noActors = {-1, 2, 10, MIN, MAX};
        for (int n : noActors) {
            due("no such actor can", x.can(n), false);
            due("no such actor acts", x.act(n), false);
        }
        YardActors y = new YardActors();
        y.actor(SOURCE, 0, 0);
        tell(y, 0, 1, 2, 3);
        for (int k = 0; k < 3; k++) {
            due("to no channel", y.act(0), true);
        }
        due("none is left", y.act(0), false);
    }

    private static void promise5And6Map() {
        part = "map";
        YardActors x = fed(MAP, 3, -1, 4);
        tell(x, 0, 5, MAX, 0, MIN);
        due("no value", x.can(1), false);
        due("no value", x.act(1), false);
        x.run(1L, 2000);
        dueKept(x, 2, 14, MAX * 3 - 1, -1, MIN * 3 - 1);
        YardActors y = fed(MAP, MAX, MIN, 2);
        tell(y, 0, 2, -1);
        y.run(1L, 2000);
        dueKept(y, 2, MAX * 2 + MIN, -MAX + MIN);
        YardActors z = fed(MAP, 1, 0, 1);
        tell(z, 0, 1, 2, 3);
        z.act(0);
        due("acts", z.act(1), true);
        z.act(0);
        due("has a value, but no room", z.can(1), false);
        due("has a value, but no room", z.act(1), false);
        dueWaiting(z, 0, 2);
        dueWaiting(z, 1, 1);
        YardActors bare = new YardActors();
        bare.actor(MAP, 1, 1);
        due("no channels", bare.can(0), false);
    }

    private static void promise5And6Split() {
        part = "split";
        YardActors x = new YardActors();
        x.actor(SOURCE, 0, 0);
        x.actor(SPLIT, 0, 0);
        x.actor(SINK, 0, 0);
        x.actor(SINK, 0, 0);
        x.channel(0, 0, 1, 0, 8);
        x.channel(1, 0, 2, 0, 2);
        x.channel(1, 1, 3, 0, 1);
        tell(x, 0, 1, 2, 3, 4, 5);
        due("no value", x.can(1), false);
        for (int k = 0; k < 5; k++) {
            due("the source acts", x.act(0), true);
        }
        for (int k = 0; k < 3; k++) {
            due("acts", x.act(1), true);
        }
        dueWaiting(x, 1, 1, 3);
        dueWaiting(x, 2, 2);
        due("out 1 has no room", x.can(1), false);
        due("sink of out 0 acts", x.act(2), true);
        due("out 1 still has no room", x.act(1), false);
        due("sink of out 1 acts", x.act(3), true);
        due("goes on", x.act(1), true);
        dueWaiting(x, 1, 3);
        dueWaiting(x, 2, 4);
        due("out 0 has the turn", x.act(1), true);
        dueWaiting(x, 1, 3, 5);
        due("no value left", x.can(1), false);

        YardActors y = new YardActors();
        y.actor(SOURCE, 0, 0);
        y.actor(SPLIT, 0, 0);
        y.actor(SINK, 0, 0);
        y.channel(0, 0, 1, 0, 8);
        y.channel(1, 1, 2, 0, 8);
        tell(y, 0, 1, 2, 3, 4, 5);
        due("all act", y.run(1L, 2000), 12);
        dueKept(y, 2, 2, 4);
    }

    private static void promise5And6Merge() {
        part = "merge";
        YardActors x = twoFed(MERGE, 1);
        tell(x, 0, 1, 2, 3);
        tell(x, 1, 10, 20);
        x.act(1);
        due("in 0 has the first turn", x.can(2), false);
        due("in 0 has the first turn", x.act(2), false);
        x.act(0);
        due("acts", x.act(2), true);
        due("no room", x.can(2), false);
        x.act(3);
        due("in 1 has the turn", x.act(2), true);
        dueWaiting(x, 2, 10);
        dueWaiting(x, 0);
        dueWaiting(x, 1);
        x.run(3L, 2000);
        dueKept(x, 3, 1, 10, 2, 20, 3);
        due("acted", x.acted(2), 5);

        YardActors y = new YardActors();
        y.actor(SOURCE, 0, 0);
        y.actor(MERGE, 0, 0);
        y.channel(0, 0, 1, 0, 8);
        tell(y, 0, 1, 2, 3);
        due("in 1 never has any", y.run(1L, 2000), 4);
        due("in 1 never has any", y.acted(1), 1);
    }

    private static void promise5And6Sum() {
        part = "sum";
        YardActors x = twoFed(SUM, 1);
        tell(x, 0, 1, MAX, 5);
        tell(x, 1, 10, 1, 6, 7);
        x.act(1);
        due("in 0 has none", x.can(2), false);
        x.act(0);
        due("both have", x.can(2), true);
        due("acts", x.act(2), true);
        due("both are taken", x.waits(0), 0);
        due("both are taken", x.waits(1), 0);
        x.act(0);
        x.act(1);
        due("no room", x.can(2), false);
        due("no room", x.act(2), false);
        x.act(3);
        due("room again", x.act(2), true);
        x.act(3);
        x.act(0);
        due("in 1 has none", x.can(2), false);
        due("in 1 has none", x.act(2), false);
        x.run(2L, 2000);
        dueKept(x, 3, 11, MIN, 11);
        due("acted", x.acted(2), 3);
    }

    private static void promise5And6Delay() {
        part = "delay";
        YardActors x = fed(DELAY, -9, 77, 1);
        tell(x, 0, 4, 5);
        due("the first time", x.can(1), true);
        due("the first time", x.act(1), true);
        dueWaiting(x, 1, -9);
        due("then no value", x.act(1), false);
        x.act(0);
        due("no room", x.can(1), false);
        x.run(1L, 2000);
        dueKept(x, 2, -9, 4, 5);
        due("acted", x.acted(1), 3);

        YardActors y = fed(DELAY, 3, 0, 2);
        tell(y, 0, 8);
        y.act(0);
        due("the first time takes none", y.act(1), true);
        dueWaiting(y, 0, 8);
        dueWaiting(y, 1, 3);

        YardActors bare = new YardActors();
        bare.actor(DELAY, 3, 0);
        due("alone, once", bare.act(0), true);
        due("alone, no more", bare.act(0), false);

        YardActors late = new YardActors();
        late.actor(DELAY, 1, 0);
        late.actor(DELAY, 2, 0);
        late.actor(MERGE, 0, 0);
        late.channel(0, 0, 2, 0, 1);
        late.channel(1, 0, 2, 1, 1);
        due("delays", late.act(0), true);
        due("the first time wants room and no value", late.act(1), true);
        due("no in", late.act(1), false);
    }

    private static void promise5And6Sink() {
        part = "sink";
        YardActors x = new YardActors();
        for (int s = 0; s < 4; s++) {
            x.actor(SOURCE, 0, 0);
            for (int k = 0; k < 20; k++) {
                x.value(s, 100 * s + k);
            }
        }
        x.actor(MERGE, 0, 0);
        x.actor(MERGE, 0, 0);
        x.actor(MERGE, 0, 0);
        x.actor(SINK, 0, 0);
        x.channel(0, 0, 4, 0, 1);
        x.channel(1, 0, 4, 1, 1);
        x.channel(2, 0, 5, 0, 1);
        x.channel(3, 0, 5, 1, 1);
        x.channel(4, 0, 6, 0, 1);
        x.channel(5, 0, 6, 1, 1);
        x.channel(6, 0, 7, 0, 4);
        due("keptAtLast", x.keptAtLast(7), 60);
        x.run(1L, 2000);
        due("kept", x.kept(7), 60);
        due("acted", x.acted(7), 60);
        due("can no more", x.can(7), false);
        due("acts no more", x.act(7), false);
        due("values wait", x.waits(6), 4);
        int[] order = {0, 200, 100, 300};
        for (int k = 0; k < 60; k++) {
            due("at " + k, x.at(7, k), order[k % 4] + k / 4);
            due("atLast " + k, x.atLast(7, k), order[k % 4] + k / 4);
        }
        due("at 60", x.at(7, 60), NO_VALUE);
        due("atLast 60", x.atLast(7, 60), NO_VALUE);
        dueWaiting(x, 6, 15, 215, 115, 315);
    }

    private static void promise5And6Gate() {
        part = "gate";
        YardActors x = twoFed(GATE, 1);
        tell(x, 0, 1, 0, -1, 0, MIN);
        tell(x, 1, 10, 20, 0, 40, 50);
        x.act(0);
        due("in 1 has none", x.can(2), false);
        x.act(1);
        due("passes", x.act(2), true);
        dueWaiting(x, 2, 10);
        x.act(1);
        due("in 0 has none", x.can(2), false);
        x.act(0);
        due("lost, though no room", x.can(2), true);
        due("lost, though no room", x.act(2), true);
        dueWaiting(x, 2, 10);
        due("both are taken", x.waits(0), 0);
        due("both are taken", x.waits(1), 0);
        x.act(0);
        x.act(1);
        due("not 0, and no room", x.can(2), false);
        due("not 0, and no room", x.act(2), false);
        due("the sink", x.act(3), true);
        due("passes", x.act(2), true);
        x.act(3);
        x.act(0);
        x.act(1);
        due("lost, though there is room", x.act(2), true);
        dueWaiting(x, 2);
        x.run(1L, 2000);
        dueKept(x, 3, 10, 0, 50);
        due("acted", x.acted(2), 5);
    }

    private static void promise5And6Copy() {
        part = "copy";
        YardActors x = new YardActors();
        x.actor(SOURCE, 0, 0);
        x.actor(COPY, 0, 0);
        x.actor(SINK, 0, 0);
        x.actor(SINK, 0, 0);
        x.channel(0, 0, 1, 0, 8);
        x.channel(1, 0, 2, 0, 1);
        x.channel(1, 1, 3, 0, 1);
        tell(x, 0, 4, 5, 6);
        due("no value", x.can(1), false);
        x.act(0);
        x.act(0);
        x.act(0);
        due("acts", x.act(1), true);
        dueWaiting(x, 1, 4);
        dueWaiting(x, 2, 4);
        x.act(2);
        due("out 1 has no room", x.can(1), false);
        x.act(3);
        due("acts", x.act(1), true);
        x.act(3);
        due("out 0 has no room", x.can(1), false);
        due("out 0 has no room", x.act(1), false);
        x.run(1L, 2000);
        dueKept(x, 2, 4, 5, 6);
        dueKept(x, 3, 4, 5, 6);

        YardActors y = new YardActors();
        y.actor(SOURCE, 0, 0);
        y.actor(COPY, 0, 0);
        y.actor(SINK, 0, 0);
        y.channel(0, 0, 1, 0, 1);
        y.channel(1, 1, 2, 0, 1);
        tell(y, 0, 4, 5, 6);
        due("out 0 takes any", y.run(1L, 2000), 9);
        dueKept(y, 2, 4, 5, 6);
    }

    // Room is looked at before the value is taken: a full channel to itself stays full.
    private static void promise5And6OwnChannel() {
        part = "own channel";
        YardActors x = new YardActors();
        x.actor(DELAY, 4, 0);
        due("to itself", x.channel(0, 0, 0, 0, 1), 0);
        due("the first time", x.act(0), true);
        due("no room", x.can(0), false);
        due("no room", x.act(0), false);
        due("actedAtLast", x.actedAtLast(0), 1);
        due("fullAtLast", x.fullAtLast(0), 0);

        YardActors y = new YardActors();
        y.actor(SOURCE, 0, 0);
        y.actor(MERGE, 0, 0);
        y.channel(0, 0, 1, 0, 1);
        y.channel(1, 0, 1, 1, 2);
        tell(y, 0, 1, 2, 3, 4);
        due("full behind the third", y.actedAtLast(1), 3);
        y.run(6L, 2000);
        dueWaiting(y, 1, 1, 2);
        dueWaiting(y, 0, 3);
    }

    private static void promise5And6MostTimes() {
        part = "100 times";
        YardActors x = new YardActors();
        x.actor(DELAY, 1, 0);
        x.actor(MAP, 3, 0);
        x.channel(0, 0, 1, 0, 2);
        x.channel(1, 0, 0, 0, 2);
        due("actedAtLast", x.actedAtLast(0), 100);
        due("actedAtLast", x.actedAtLast(1), 100);
        for (int k = 0; k < 99; k++) {
            due("delay", x.act(0), true);
            due("map", x.act(1), true);
        }
        due("the hundredth", x.can(0), true);
        due("the hundredth", x.act(0), true);
        due("the hundredth", x.act(1), true);
        due("no more", x.can(0), false);
        due("no more", x.act(0), false);
        due("run", x.run(1L, 2000), 0);
        due("acted", x.acted(0), 100);
        due("a value waits", x.waits(1), 1);
        int power = 1;
        for (int k = 0; k < 100; k++) {
            power *= 3;
        }
        dueWaiting(x, 1, power);
    }

    private static void promise7RunDraws() {
        part = "promise 7, draws";
        long[] seeds = {0L, 1L, -1L, 7L, Long.MIN_VALUE, Long.MAX_VALUE, 123456789012345L};
        int[][] picks = {
            {2, 0, 1, 1, 2, 2, 2, 2}, {2, 0, 0, 0, 0, 2, 2, 1}, {1, 2, 1, 2, 0, 2, 0, 2},
            {2, 2, 0, 2, 1, 2, 1, 0}, {0, 1, 0, 2, 0, 1, 0, 0}, {0, 1, 0, 0, 2, 1, 2, 1},
            {2, 1, 0, 2, 2, 2, 2, 2}};
        for (int s = 0; s < seeds.length; s++) {
            for (int most = 0; most <= 8; most++) {
                YardActors x = threeSources(8, 8, 8);
                due("run of " + most, x.run(seeds[s], most), most);
                dueCounts(x, picks[s], most);
            }
        }
        long[] fewSeeds = {0L, 1L, -1L, 7L, -5L};
        int[][] fewPicks = {
            {2, 0, 1, 0, 2}, {2, 0, 0, 1, 2}, {1, 2, 2, 0, 0}, {2, 2, 1, 0, 0}, {2, 1, 2, 0, 0}};
        for (int s = 0; s < fewSeeds.length; s++) {
            for (int most = 0; most <= 7; most++) {
                YardActors x = threeSources(2, 1, 2);
                due("run of " + most, x.run(fewSeeds[s], most), Math.min(most, 5));
                dueCounts(x, fewPicks[s], Math.min(most, 5));
            }
        }
    }

    private static void promise7RunEdges() {
        part = "promise 7, edges";
        YardActors x = threeSources(20, 20, 20);
        int[] wrongMost = {-1, 2001, MIN, MAX};
        for (int most : wrongMost) {
            due("most " + most, x.run(3L, most), NONE);
        }
        due("none acted", x.acted(0) + x.acted(1) + x.acted(2), 0);
        due("most 0", x.run(3L, 0), 0);
        due("none acted", x.acted(0) + x.acted(1) + x.acted(2), 0);
        due("most 59", x.run(3L, 59), 59);
        due("most 2000", x.run(3L, 2000), 1);
        due("none can", x.run(3L, 2000), 0);
        due("settled and wrong", x.run(3L, 2001), NONE);

        YardActors busy = new YardActors();
        for (int i = 0; i < 10; i++) {
            busy.actor(DELAY, i, 0);
            busy.channel(i, 0, i, 0, 2);
        }
        due("all they can", busy.run(9L, 2000), 1000);
    }

    private static void promise8Acted() {
        part = "promise 8";
        YardActors x = fed(MAP, 2, 0, 1);
        tell(x, 0, 1, 2, 3);
        for (int n = 0; n < 3; n++) {
            due("at first", x.acted(n), 0);
        }
        x.act(0);
        x.act(1);
        x.act(1);
        x.act(0);
        due("source", x.acted(0), 2);
        due("map", x.acted(1), 1);
        due("sink", x.acted(2), 0);
        int[] noActors = {-1, 3, 10, MIN, MAX};
        for (int n : noActors) {
            due("no such actor", x.acted(n), NONE);
        }
    }

    private static void promise9And10Kept() {
        part = "promises 9 and 10";
        YardActors x = fed(MAP, 1, 0, 3);
        tell(x, 0, MIN, 0, MAX);
        due("at first", x.kept(2), 0);
        due("at first", x.at(2, 0), NO_VALUE);
        for (int k = 0; k < 3; k++) {
            x.act(0);
            x.act(1);
            due("not yet", x.kept(2), k);
            due("not yet", x.at(2, k), NO_VALUE);
            x.act(2);
            due("kept", x.kept(2), k + 1);
        }
        dueKept(x, 2, MIN, 0, MAX);
        int[] noSinks = {-1, 0, 1, 3, MIN, MAX};
        for (int n : noSinks) {
            due("no such sink", x.kept(n), NONE);
            due("no such sink", x.at(n, 0), NO_VALUE);
        }
        int[] noPlaces = {-1, 3, 60, MIN, MAX};
        for (int k : noPlaces) {
            due("no such value", x.at(2, k), NO_VALUE);
        }
    }

    private static void promise11And12Waiting() {
        part = "promises 11 and 12";
        YardActors x = new YardActors();
        x.actor(SOURCE, 0, 0);
        x.actor(SINK, 0, 0);
        x.channel(0, 0, 1, 0, 8);
        dueWaiting(x, 0);
        for (int k = 0; k < 20; k++) {
            x.value(0, k - 3);
        }
        for (int k = 0; k < 8; k++) {
            due("the source acts", x.act(0), true);
            due("waits", x.waits(0), k + 1);
        }
        dueWaiting(x, 0, -3, -2, -1, 0, 1, 2, 3, 4);
        for (int k = 0; k < 3; k++) {
            x.act(1);
        }
        dueWaiting(x, 0, 0, 1, 2, 3, 4);
        x.act(0);
        x.act(0);
        dueWaiting(x, 0, 0, 1, 2, 3, 4, 5, 6);
        int[] noChannels = {-1, 1, 15, 16, MIN, MAX};
        for (int n : noChannels) {
            due("no such channel", x.waits(n), NONE);
            due("no such channel", x.waiting(n, 0), NO_VALUE);
        }
        int[] noPlaces = {-1, 7, 8, MIN, MAX};
        for (int k : noPlaces) {
            due("no such value", x.waiting(0, k), NO_VALUE);
        }
    }

    private static void promises13To16Settled() {
        part = "promises 13 to 16";
        YardActors x = fed(MAP, 10, 1, 2);
        tell(x, 0, 1, 2, 3);
        due("keptAtLast", x.keptAtLast(2), 3);
        due("atLast", x.atLast(2, 0), 11);
        due("atLast", x.atLast(2, 1), 21);
        due("atLast", x.atLast(2, 2), 31);
        for (int n = 0; n < 3; n++) {
            due("actedAtLast", x.actedAtLast(n), 3);
            due("nothing has acted", x.acted(n), 0);
        }
        due("nothing is kept", x.kept(2), 0);
        due("nothing waits", x.waits(0) + x.waits(1), 0);
        due("fullAtLast", x.fullAtLast(0), NONE);
        int[] noSinks = {-1, 0, 1, 3, MIN, MAX};
        for (int n : noSinks) {
            due("no such sink", x.keptAtLast(n), NONE);
            due("no such sink", x.atLast(n, 0), NO_VALUE);
        }
        int[] noPlaces = {-1, 3, 60, MIN, MAX};
        for (int k : noPlaces) {
            due("no such value", x.atLast(2, k), NO_VALUE);
        }
        int[] noActors = {-1, 3, 10, MIN, MAX};
        for (int n : noActors) {
            due("no such actor", x.actedAtLast(n), NONE);
        }
        for (int k = 0; k < 9; k++) {
            due("run one", x.run(k, 1), 1);
            due("keptAtLast stays", x.keptAtLast(2), 3);
            due("atLast stays", x.atLast(2, 2), 31);
            due("actedAtLast stays", x.actedAtLast(0), 3);
        }
        due("all is settled", x.run(1L, 2000), 0);
        dueKept(x, 2, 11, 21, 31);
    }

    private static void promises13To16AfterChanges() {
        part = "promises 13 to 16, changes";
        YardActors x = new YardActors();
        due("none yet", x.actedAtLast(0), NONE);
        x.actor(SOURCE, 0, 0);
        due("an actor more", x.actedAtLast(0), 0);
        x.value(0, 5);
        due("a value more", x.actedAtLast(0), 1);
        x.actor(SINK, 0, 0);
        due("a sink more", x.keptAtLast(1), 0);
        x.value(0, 6);
        due("lost", x.act(0), true);
        due("both would be lost", x.actedAtLast(0), 2);
        x.channel(0, 0, 1, 0, 1);
        due("one is lost", x.keptAtLast(1), 1);
        due("one is lost", x.atLast(1, 0), 6);
        due("one is lost", x.atLast(1, 1), NO_VALUE);
        x.actor(DELAY, 0, 0);
        due("a delay more acts once", x.actedAtLast(2), 1);
        x.run(2L, 2000);
        due("settled", x.actedAtLast(2), 1);
        x.value(0, 7);
        due("told behind", x.keptAtLast(1), 2);
        due("told behind", x.atLast(1, 1), 7);
        due("not yet", x.at(1, 1), NO_VALUE);
        due("not yet", x.acted(0), 2);
    }

    private static void promises13To16FromTheMidst() {
        part = "promises 13 to 16, from the midst";
        YardActors x = new YardActors();
        x.actor(SOURCE, 0, 0);
        x.actor(SPLIT, 0, 0);
        x.actor(SINK, 0, 0);
        x.channel(0, 0, 1, 0, 8);
        x.channel(1, 0, 2, 0, 8);
        for (int k = 0; k < 20; k++) {
            x.value(0, k);
        }
        for (int k = 0; k < 11; k++) {
            x.act(0);
            if (k < 5) {
                x.act(1);
                x.act(2);
            }
        }
        dueWaiting(x, 0, 5, 6, 7, 8, 9, 10);
        due("keptAtLast", x.keptAtLast(2), 10);
        for (int k = 0; k < 10; k++) {
            due("atLast " + k, x.atLast(2, k), 2 * k);
        }
        due("actedAtLast", x.actedAtLast(1), 20);
        dueWaiting(x, 0, 5, 6, 7, 8, 9, 10);
        dueKept(x, 2, 0, 2, 4);
        due("acted", x.acted(1), 5);
    }

    private static void promise16Full() {
        part = "promise 16";
        YardActors x = new YardActors();
        for (int s = 0; s < 3; s++) {
            x.actor(SOURCE, 0, 0);
            for (int k = 0; k < 3; k++) {
                x.value(s, k);
            }
        }
        x.actor(MERGE, 0, 0);
        x.actor(SUM, 0, 0);
        x.channel(0, 0, 3, 1, 2);
        x.channel(1, 0, 4, 0, 4);
        x.channel(2, 0, 4, 1, 3);
        due("nothing is full yet", x.waits(0), 0);
        due("first full: the merge waits for in 0", x.fullAtLast(0), 0);
        due("no other: the sums go on", x.fullAtLast(1), NONE);
        x.actor(DELAY, 0, 0);
        x.channel(5, 0, 5, 0, 1);
        due("first", x.fullAtLast(0), 0);
        due("second", x.fullAtLast(1), 3);
        due("third", x.fullAtLast(2), NONE);
        int[] noPlaces = {-1, -2, 16, MIN, MAX};
        for (int k : noPlaces) {
            due("no such channel", x.fullAtLast(k), NONE);
        }
        due("nothing has acted", x.acted(5) + x.acted(0), 0);

        YardActors passing = fed(MAP, 1, 0, 1);
        tell(passing, 0, 1, 2, 3);
        passing.act(0);
        due("full now", passing.waits(0), 1);
        due("but not at last", passing.fullAtLast(0), NONE);
    }

    private static void objectsAreApart() {
        part = "two objects";
        YardActors x = fed(MAP, 1, 1, 1);
        YardActors y = fed(MAP, 1, 2, 1);
        tell(x, 0, 1);
        tell(y, 0, 1, 2);
        x.run(1L, 2000);
        due("the other", y.acted(0), 0);
        due("x", x.at(2, 0), 2);
        due("y", y.atLast(2, 1), 4);
        due("x", x.keptAtLast(2), 1);
    }

    private static void exampleOfTheReadme() {
        part = "README.md";
        YardActors yard = new YardActors();
        int source = yard.actor(SOURCE, 0, 0);
        int map = yard.actor(MAP, 3, 1);
        int sink = yard.actor(SINK, 0, 0);
        due("channel", yard.channel(source, 0, map, 0, 2), 0);
        due("channel", yard.channel(map, 0, sink, 0, 1), 1);
        due("value", yard.value(source, 5), true);
        due("value", yard.value(source, 6), true);
        due("keptAtLast", yard.keptAtLast(sink), 2);
        due("atLast", yard.atLast(sink, 1), 19);
        due("can", yard.can(map), false);
        due("act", yard.act(source), true);
        due("waiting", yard.waiting(0, 0), 5);
        due("run", yard.run(7L, 2000), 5);
        due("kept", yard.kept(sink), 2);
        due("at", yard.at(sink, 0), 16);
        due("at", yard.at(sink, 2), NO_VALUE);
    }

    /** 0: a source, 1: the actor in question, 2: a sink; the channels have the same room. */
    private static YardActors fed(int kind, int a, int b, int room) {
        YardActors x = new YardActors();
        x.actor(SOURCE, 0, 0);
        x.actor(kind, a, b);
        x.actor(SINK, 0, 0);
        x.channel(0, 0, 1, 0, room);
        x.channel(1, 0, 2, 0, room);
        return x;
    }

    /** 0 and 1: sources, 2: the actor in question, 3: a sink. */
    private static YardActors twoFed(int kind, int room) {
        YardActors x = new YardActors();
        x.actor(SOURCE, 0, 0);
        x.actor(SOURCE, 0, 0);
        x.actor(kind, 7, 7);
        x.actor(SINK, 0, 0);
        x.channel(0, 0, 2, 0, room);
        x.channel(1, 0, 2, 1, room);
        x.channel(2, 0, 3, 0, room);
        return x;
    }

    private static YardActors threeSources(int... told) {
        YardActors x = new YardActors();
        for (int s = 0; s < 3; s++) {
            x.actor(SOURCE, 0, 0);
            for (int k = 0; k < told[s]; k++) {
                x.value(s, k);
            }
        }
        return x;
    }

    private static void tell(YardActors x, int source, int... values) {
        for (int v : values) {
            due("value", x.value(source, v), true);
        }
    }

    private static void dueCounts(YardActors x, int[] picks, int steps) {
        int[] counts = new int[3];
        for (int k = 0; k < steps; k++) {
            counts[picks[k]]++;
        }
        for (int n = 0; n < 3; n++) {
            due("acted " + n, x.acted(n), counts[n]);
        }
    }

    private static void dueKept(YardActors x, int sink, int... values) {
        due("kept", x.kept(sink), values.length);
        for (int k = 0; k < values.length; k++) {
            due("at " + k, x.at(sink, k), values[k]);
        }
        due("at the end", x.at(sink, values.length), NO_VALUE);
    }

    private static void dueWaiting(YardActors x, int channel, int... values) {
        due("waits", x.waits(channel), values.length);
        for (int k = 0; k < values.length; k++) {
            due("waiting " + k, x.waiting(channel, k), values[k]);
        }
        due("waiting at the end", x.waiting(channel, values.length), NO_VALUE);
    }

    private static void due(String what, boolean got, boolean want) {
        due(what, got ? 1L : 0L, want ? 1L : 0L);
    }

    private static void due(String what, long got, long want) {
        if (got != want) {
            wrong++;
            System.out.println(part + ": " + what + " answered " + got + ", due is " + want);
        }
    }
}
