/** The boundary cases of promises 8 to 12: what can be seen of actors, sinks and channels now. */
public final class Boundary08To12Test extends Boundaries {
    public static void main(String[] args) {
        runAll(Boundary08To12Test.class);
    }

    // "NONE when there is none such"
    static void promise08NoSuchActor() {
        Trial t = yard(SOURCE, MAP);
        t.same(0, "acted", 0);
        t.same(0, "acted", 1);
        t.refused("acted", -1);
        t.refused("acted", 2);
        for (int n : FAR) {
            t.refused("acted", n);
        }
    }

    // The last number there can be.
    static void promise08TenthActor() {
        Trial t = yard(0, 1, 2, 3, 4, 5, 6, 7, 8, DELAY);
        acts(t, 9, 1);
        t.due(1, "acted", 9);
        t.refused("acted", 10);
    }

    // "How often an actor acted": what it could not do does not count.
    static void promise08RefusedActsDoNotCount() {
        Trial t = fed(MAP, 1, 0, 1, 1);
        t.due(0, "act", 0);
        t.due(0, "acted", 0);
        tell(t, 0, 1, 2);
        t.due(0, "acted", 0);
        acts(t, 0, 1);
        t.due(0, "act", 0);
        t.due(1, "acted", 0);
        t.due(0, "act", 2);
        t.due(0, "acted", 2);
    }

    // "How often an actor acted": an act whose values are lost counts.
    static void promise08LostValuesCount() {
        Trial t = fedTwice(GATE, 1, 1);
        tell(t, 0, 0);
        tell(t, 1, 5);
        acts(t, 0, 1);
        acts(t, 1, 1);
        acts(t, 2, 1);
        t.due(1, "acted", 2);
        t.due(0, "waits", 2);
        Trial source = yard(SOURCE);
        tell(source, 0, 1);
        acts(source, 0, 1);
        source.due(1, "acted", 0);
    }

    // "less than 100 times": 100 is the greatest answer.
    static void promise08HundredIsTheGreatest() {
        Trial t = new Trial();
        t.due(0, "actor", DELAY, 1, 0);
        t.due(0, "channel", 0, 0, 0, 0, 8);
        t.due(99, "run", 1, 99);
        t.due(99, "acted", 0);
        t.due(1, "run", 1, 2000);
        t.due(100, "acted", 0);
        t.due(0, "act", 0);
        t.due(100, "acted", 0);
    }

    // "NONE when there is none such": no such number.
    static void promise09NoSuchActor() {
        Trial t = yard(SINK, SINK);
        t.same(0, "kept", 0);
        t.same(0, "kept", 1);
        t.refused("kept", -1);
        t.refused("kept", 2);
        for (int n : FAR) {
            t.refused("kept", n);
        }
    }

    // "NONE when there is none such": an actor, but no sink.
    static void promise09NoSink() {
        for (int kind = 0; kind < KINDS; kind++) {
            if (kind != SINK) {
                Trial t = yard(kind, SINK);
                t.ask("value", 0, 5);
                t.ask("act", 0);
                t.refused("kept", 0);
                t.due(0, "kept", 1);
            }
        }
    }

    // The last number there can be.
    static void promise09TenthActorIsASink() {
        Trial t = yard(0, 1, 2, 3, 4, 5, 0, 7, 8, SINK);
        t.due(0, "channel", 0, 0, 9, 0, 1);
        tell(t, 0, 5);
        settle(t);
        t.due(1, "kept", 9);
        t.refused("kept", 10);
    }

    // "it KEPT less than 60": 60 is the greatest answer.
    static void promise09SixtyIsTheGreatest() {
        Trial t = keptSoMany(59);
        t.due(59, "kept", 2);
        acts(t, 2, 1);
        t.due(60, "kept", 2);
        t.due(0, "act", 2);
        t.due(60, "kept", 2);
        settle(t);
        t.due(60, "kept", 2);
        t.due(8, "waits", 2);
    }

    /** A ring that feeds a sink, number 2, which kept so many and has a value more waiting. */
    private static Trial keptSoMany(int many) {
        Trial t = countingRing(8);
        for (int k = 0; k <= many; k++) {
            acts(t, 0, 1);
            acts(t, 1, 1);
            acts(t, 3, 1);
            acts(t, 2, k < many ? 1 : 0);
        }
        return t;
    }

    // "Long.MIN_VALUE when there is none such": k from 0 to one less than are kept.
    static void promise10NoSuchPlace() {
        Trial t = yard(SOURCE, SINK);
        t.due(0, "channel", 0, 0, 1, 0, 8);
        tell(t, 0, 5, 6, 7, 8);
        t.refused("at", 1, 0);
        acts(t, 0, 4);
        t.refused("at", 1, 0);
        for (int k = 0; k < 3; k++) {
            acts(t, 1, 1);
            t.due(5 + k, "at", 1, k);
            t.refused("at", 1, k + 1);
            t.refused("at", 1, -1);
        }
        for (int k : FAR) {
            t.refused("at", 1, k);
        }
        t.due(5, "at", 1, 0);
    }

    // The last place there can be: 59.
    static void promise10Place59() {
        Trial t = keptSoMany(59);
        t.due(58, "at", 2, 58);
        t.refused("at", 2, 59);
        acts(t, 2, 1);
        t.due(59, "at", 2, 59);
        t.refused("at", 2, 60);
        t.refused("at", 2, 61);
        for (int k = 0; k < 60; k++) {
            t.due(k, "at", 2, k);
        }
    }

    // "Long.MIN_VALUE when there is none such": no such sink.
    static void promise10NoSuchSink() {
        Trial t = yard(SOURCE, SINK, MAP);
        t.due(0, "channel", 0, 0, 1, 0, 1);
        tell(t, 0, 5);
        settle(t);
        t.refused("at", -1, 0);
        t.refused("at", 0, 0);
        t.refused("at", 2, 0);
        t.refused("at", 3, 0);
        for (int n : FAR) {
            t.refused("at", n, 0);
            t.refused("at", n, n);
        }
        t.due(5, "at", 1, 0);
    }

    // A kept value may be any int; the least of them is not the answer for none.
    static void promise10LeastValueIsNotNone() {
        Trial t = yard(SOURCE, SINK);
        t.due(0, "channel", 0, 0, 1, 0, 1);
        tell(t, 0, MIN, NONE, 0);
        settle(t);
        t.due(-2147483648L, "at", 1, 0);
        t.due(-1, "at", 1, 1);
        t.due(0, "at", 1, 2);
        t.due(Long.MIN_VALUE, "at", 1, 3);
    }

    // "NONE when there is none such"
    static void promise11NoSuchChannel() {
        Trial t = fed(MAP, 1, 0, 1, 1);
        t.same(0, "waits", 0);
        t.same(0, "waits", 1);
        t.refused("waits", -1);
        t.refused("waits", 2);
        t.refused("waits", 15);
        for (int c : FAR) {
            t.refused("waits", c);
        }
    }

    // The last channel that there can be: ten actors have 30 ends, so it is number 14.
    static void promise11FifteenthChannel() {
        Trial t = allEndsJoined();
        t.due(0, "waits", 14);
        t.refused("waits", 15);
        t.refused("waits", 16);
        t.refused("waiting", 14, 0);
        t.refused("waiting", 15, 0);
    }

    // "How many values are in a channel": from none to its room, and back to none.
    static void promise11FromEmptyToFull() {
        for (int room = 1; room <= 8; room++) {
            Trial t = yard(SOURCE, SINK);
            t.due(0, "channel", 0, 0, 1, 0, room);
            tellMany(t, 0, 0, 20);
            for (int k = 0; k < room; k++) {
                t.due(k, "waits", 0);
                acts(t, 0, 1);
            }
            t.due(room, "waits", 0);
            t.due(0, "act", 0);
            t.due(room, "waits", 0);
            for (int k = room; k > 0; k--) {
                t.due(k, "waits", 0);
                acts(t, 1, 1);
            }
            t.due(0, "waits", 0);
            t.due(0, "act", 1);
            t.due(0, "waits", 0);
        }
    }

    // "Long.MIN_VALUE when there is none such": no such channel.
    static void promise12NoSuchChannel() {
        Trial t = yard(SOURCE, SINK);
        t.refused("waiting", 0, 0);
        t.due(0, "channel", 0, 0, 1, 0, 1);
        tell(t, 0, 5);
        acts(t, 0, 1);
        t.refused("waiting", -1, 0);
        t.refused("waiting", 1, 0);
        t.refused("waiting", 15, 0);
        for (int c : FAR) {
            t.refused("waiting", c, 0);
            t.refused("waiting", c, c);
        }
        t.same(5, "waiting", 0, 0);
    }

    // "Long.MIN_VALUE when there is none such": k from 0 to one less than there are.
    static void promise12NoSuchPlace() {
        Trial t = yard(SOURCE, SINK);
        t.due(0, "channel", 0, 0, 1, 0, 8);
        tellMany(t, 0, 5, 20);
        t.refused("waiting", 0, 0);
        t.refused("waiting", 0, -1);
        for (int k = 0; k < 8; k++) {
            acts(t, 0, 1);
            t.same(5 + k, "waiting", 0, k);
            t.refused("waiting", 0, k + 1);
            t.refused("waiting", 0, -1);
        }
        t.refused("waiting", 0, 9);
        for (int k : FAR) {
            t.refused("waiting", 0, k);
        }
    }

    // "the first to be taken being 0": behind values taken, all the way round the room.
    static void promise12PlacesGoRound() {
        for (int room = 1; room <= 8; room++) {
            Trial t = yard(SOURCE, SINK);
            t.due(0, "channel", 0, 0, 1, 0, room);
            tellMany(t, 0, 5, 20);
            acts(t, 0, room);
            for (int taken = 1; taken + room <= 20; taken++) {
                acts(t, 1, 1);
                t.due(NO_VALUE, "waiting", 0, room - 1);
                acts(t, 0, 1);
                t.due(5 + taken, "waiting", 0, 0);
                t.due(4 + taken + room, "waiting", 0, room - 1);
                t.due(NO_VALUE, "waiting", 0, room);
                t.due(NO_VALUE, "waiting", 0, -1);
            }
        }
    }

    // Values that were taken are in no place any more.
    static void promise12TakenValuesAreGone() {
        Trial t = yard(SOURCE, SINK);
        t.due(0, "channel", 0, 0, 1, 0, 8);
        tellMany(t, 0, 5, 3);
        acts(t, 0, 3);
        acts(t, 1, 2);
        waiting(t, 0, 7);
        t.refused("waiting", 0, 1);
        t.refused("waiting", 0, 7);
        acts(t, 1, 1);
        for (int k = 0; k < 8; k++) {
            t.refused("waiting", 0, k);
        }
    }

    // A waiting value may be any int; the least of them is not the answer for none.
    static void promise12LeastValueIsNotNone() {
        Trial t = yard(SOURCE, SINK);
        t.due(0, "channel", 0, 0, 1, 0, 3);
        tell(t, 0, MIN, NONE, MAX);
        acts(t, 0, 3);
        t.due(-2147483648L, "waiting", 0, 0);
        t.due(-1, "waiting", 0, 1);
        t.due(2147483647L, "waiting", 0, 2);
        t.due(Long.MIN_VALUE, "waiting", 0, 3);
    }
}
