import java.lang.reflect.InvocationTargetException;
import java.lang.reflect.Method;
import java.util.Arrays;
import java.util.Comparator;

/** What the tests of boundary cases share: names, small yards, and the running of them all. */
abstract class Boundaries {
    static final int NONE = -1;
    static final long NO_VALUE = Long.MIN_VALUE;
    static final int MIN = Integer.MIN_VALUE;
    static final int MAX = Integer.MAX_VALUE;

    static final int SOURCE = 0;
    static final int MAP = 1;
    static final int SPLIT = 2;
    static final int MERGE = 3;
    static final int SUM = 4;
    static final int DELAY = 5;
    static final int SINK = 6;
    static final int GATE = 7;
    static final int COPY = 8;
    static final int KINDS = 9;
    static final int[] INS = {0, 1, 1, 2, 2, 1, 1, 2, 1};
    static final int[] OUTS = {1, 1, 2, 1, 1, 1, 0, 1, 2};
    // No actor, channel, kind, in, out or room has such a number.
    static final int[] FAR = {MIN, MIN + 1, -2, 11, 16, 17, 60, 61, 100, MAX - 1, MAX};

    /** Runs every method of the class whose name begins with 'promise', each by itself. */
    static void runAll(Class<?> tests) {
        Method[] methods = tests.getDeclaredMethods();
        Arrays.sort(methods, Comparator.comparing(Method::getName));
        int ran = 0;
        for (Method method : methods) {
            if (method.getName().startsWith("promise")) {
                runOne(method);
                ran++;
            }
        }
        System.out.println(ran + " boundary cases, " + Trial.faults() + " answers are not as due");
        if (ran == 0 || Trial.faults() != 0) {
            System.exit(1);
        }
    }

    private static void runOne(Method method) {
        Trial.begin(method.getName());
        try {
            method.setAccessible(true);
            method.invoke(null);
        } catch (InvocationTargetException e) {
            Trial.fault("threw " + e.getCause());
        } catch (IllegalAccessException e) {
            Trial.fault("could not be run: " + e);
        }
    }

    /** A yard with one actor of each of these kinds, by this order, a and b being 0. */
    static Trial yard(int... kinds) {
        Trial t = new Trial();
        for (int n = 0; n < kinds.length; n++) {
            t.due(n, "actor", kinds[n], 0, 0);
        }
        return t;
    }

    /** 0: a source, 1: the actor in question, 2: a sink; channel 0 leads to it, 1 away from it. */
    static Trial fed(int kind, int a, int b, int roomIn, int roomOut) {
        Trial t = new Trial();
        t.due(0, "actor", SOURCE, 0, 0);
        t.due(1, "actor", kind, a, b);
        t.due(2, "actor", SINK, 0, 0);
        t.due(0, "channel", 0, 0, 1, 0, roomIn);
        t.due(1, "channel", 1, 0, 2, 0, roomOut);
        return t;
    }

    /** 0, 1: sources, 2: the actor in question, 3: a sink; channels 0, 1 lead to it, 2 away. */
    static Trial fedTwice(int kind, int roomIn, int roomOut) {
        Trial t = yard(SOURCE, SOURCE, kind, SINK);
        t.due(0, "channel", 0, 0, 2, 0, roomIn);
        t.due(1, "channel", 1, 0, 2, 1, roomIn);
        t.due(2, "channel", 2, 0, 3, 0, roomOut);
        return t;
    }

    /** 0: a source, 1: the actor in question, 2, 3: sinks; channel 0 leads to it, 1, 2 away. */
    static Trial leadingTwice(int kind, int roomIn, int room0, int room1) {
        Trial t = yard(SOURCE, kind, SINK, SINK);
        t.due(0, "channel", 0, 0, 1, 0, roomIn);
        t.due(1, "channel", 1, 0, 2, 0, room0);
        t.due(2, "channel", 1, 1, 3, 0, room1);
        return t;
    }

    /**
     * 0: a delay, 1: a copy, that send one value round for as long as they can: out 1 of the copy
     * gives 100 values, 7 each, the most that ever come out of an out.
     */
    static Trial ring() {
        Trial t = new Trial();
        t.due(0, "actor", DELAY, 7, 0);
        t.due(1, "actor", COPY, 0, 0);
        t.due(0, "channel", 0, 0, 1, 0, 1);
        t.due(1, "channel", 1, 0, 0, 0, 1);
        return t;
    }

    /** A ring like the other that counts: 2, a sink, gets 0, 1, 2 .. by channel 2; 3 is a map. */
    static Trial countingRing(int room) {
        Trial t = new Trial();
        t.due(0, "actor", DELAY, 0, 0);
        t.due(1, "actor", COPY, 0, 0);
        t.due(2, "actor", SINK, 0, 0);
        t.due(3, "actor", MAP, 1, 1);
        t.due(0, "channel", 0, 0, 1, 0, 1);
        t.due(1, "channel", 1, 0, 3, 0, 1);
        t.due(2, "channel", 1, 1, 2, 0, room);
        t.due(3, "channel", 3, 0, 0, 0, 1);
        return t;
    }

    /** Five copies and five merges in a ring: all of their 30 ends are joined, by 15 channels. */
    static Trial allEndsJoined() {
        Trial t = yard(COPY, MERGE, COPY, MERGE, COPY, MERGE, COPY, MERGE, COPY, MERGE);
        for (int pair = 0; pair < 5; pair++) {
            int copy = 2 * pair;
            t.due(3 * pair, "channel", copy, 0, copy + 1, 0, 1);
            t.due(3 * pair + 1, "channel", copy, 1, copy + 1, 1, 8);
            t.due(3 * pair + 2, "channel", copy + 1, 0, (copy + 2) % 10, 0, 4);
        }
        return t;
    }

    static void tell(Trial t, int source, int... values) {
        for (int v : values) {
            t.yes("value", source, v);
        }
    }

    /** Tells so many values: from, from + 1 .. */
    static void tellMany(Trial t, int source, int from, int many) {
        for (int k = 0; k < many; k++) {
            t.yes("value", source, from + k);
        }
    }

    static void acts(Trial t, int actor, int times) {
        for (int k = 0; k < times; k++) {
            t.yes("act", actor);
        }
    }

    static void settle(Trial t) {
        t.ask("run", 5, 2000);
        t.due(0, "run", 5, 2000);
    }

    static void waiting(Trial t, int channel, int... values) {
        t.due(values.length, "waits", channel);
        for (int k = 0; k < values.length; k++) {
            t.due(values[k], "waiting", channel, k);
        }
        t.due(NO_VALUE, "waiting", channel, values.length);
    }

    static void kept(Trial t, int sink, int... values) {
        t.due(values.length, "kept", sink);
        for (int k = 0; k < values.length; k++) {
            t.due(values[k], "at", sink, k);
        }
        t.due(NO_VALUE, "at", sink, values.length);
    }
}
