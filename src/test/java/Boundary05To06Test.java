/**
 * The boundary cases of promises 5 and 6, can and act, for each kind of actor. 'can' and 'cannot'
 * of a trial ask both: what can answers, act has to bear out.
 */
public final class Boundary05To06Test extends Boundaries {
    public static void main(String[] args) {
        runAll(Boundary05To06Test.class);
    }

    // "false when there is none such" (promise 5), "or there is none such" (promise 6).
    static void promise05And06NoSuchActor() {
        int[] far = {MIN, -2, 3, 9, 10, 11, MAX};
        Trial t = yard(DELAY, DELAY);
        t.cannot(-1);
        t.cannot(2);
        for (int n : far) {
            t.cannot(n);
        }
        t.can(0);
        t.can(1);
    }

    // The last number there can be.
    static void promise05And06TenthActor() {
        Trial t = yard(1, 2, 3, 4, 6, 7, 8, 0, 1, DELAY);
        t.can(9);
        t.cannot(10);
        t.cannot(8);
    }

    // "Whether an actor can act now": asking is no acting.
    static void promise05AskingChangesNothing() {
        Trial t = fed(MAP, 2, 1, 1, 1);
        tell(t, 0, 4);
        t.same(1, "can", 0);
        t.same(0, "can", 1);
        acts(t, 0, 1);
        t.same(1, "can", 1);
        t.same(0, "can", 2);
        acts(t, 1, 1);
        t.same(1, "can", 2);
    }

    // "An actor acts", once for each call, and no other does.
    static void promise06OneActsOnce() {
        Trial t = fed(MAP, 1, 0, 8, 8);
        tell(t, 0, 1, 2, 3);
        for (int k = 1; k <= 3; k++) {
            acts(t, 0, 1);
            t.due(k, "acted", 0);
            t.due(k, "waits", 0);
            t.due(0, "acted", 1);
        }
    }

    // SOURCE: "a value that it was told is left": none told, the last one, none left.
    static void promise06SourceHasNoneLeft() {
        Trial t = yard(SOURCE);
        t.cannot(0);
        tell(t, 0, 5, 6);
        acts(t, 0, 1);
        t.can(0);
        acts(t, 0, 1);
        t.cannot(0);
        tell(t, 0, 7);
        t.can(0);
    }

    // SOURCE: all twenty that it can be told.
    static void promise06SourceGivesTwenty() {
        Trial t = yard(SOURCE);
        tellMany(t, 0, 0, 20);
        acts(t, 0, 19);
        t.can(0);
        acts(t, 0, 1);
        t.cannot(0);
    }

    // SOURCE: "and out 0 has room"
    static void promise06SourceHasNoRoom() {
        Trial t = yard(SOURCE, SINK);
        t.due(0, "channel", 0, 0, 1, 0, 2);
        tell(t, 0, 5, 6, 7);
        acts(t, 0, 1);
        t.can(0);
        acts(t, 0, 1);
        t.cannot(0);
        acts(t, 1, 1);
        t.can(0);
    }

    // SOURCE: "gives it (the one told first)", also when told behind acts.
    static void promise06SourceGivesTheOneToldFirst() {
        Trial t = yard(SOURCE, SINK);
        t.due(0, "channel", 0, 0, 1, 0, 8);
        tell(t, 0, 5, 6);
        acts(t, 0, 1);
        tell(t, 0, 7);
        acts(t, 0, 2);
        waiting(t, 0, 5, 6, 7);
    }

    // MAP: "in 0 has a value": none, the last one, none again.
    static void promise06MapHasNoValue() {
        Trial t = fed(MAP, 3, 1, 2, 8);
        t.cannot(1);
        tell(t, 0, 5, 0);
        t.cannot(1);
        acts(t, 0, 2);
        acts(t, 1, 1);
        t.can(1);
        acts(t, 1, 1);
        t.cannot(1);
        waiting(t, 1, 16, 1);
    }

    // MAP: "out 0 has room"
    static void promise06MapHasNoRoom() {
        Trial t = fed(MAP, 3, 1, 8, 2);
        tell(t, 0, 5, 6, 7);
        acts(t, 0, 3);
        acts(t, 1, 1);
        t.can(1);
        acts(t, 1, 1);
        t.cannot(1);
        acts(t, 2, 1);
        t.can(1);
    }

    // MAP: "v * a + b, as ints do it": it wraps around.
    static void promise06MapWrapsAround() {
        int[][] cases = {
            {MAX, 1, 0, MAX}, {MAX, 1, 1, MIN}, {MIN, 1, 0, MIN}, {MIN, 1, -1, MAX},
            {MAX, 2, 0, -2}, {MIN, 2, 0, 0}, {MIN, -1, 0, MIN}, {MAX, -1, -1, MIN},
            {MAX, -1, -2, MAX}, {65536, 65536, 0, 0}, {65536, 32768, 0, MIN},
            {46340, 46340, 0, 2147395600}, {46341, 46341, 0, -2147479015},
            {MAX, MAX, 0, 1}, {MIN, MIN, 0, 0}, {MAX, MAX, MAX, MIN}, {MIN, MAX, MIN, 0},
            {MAX, 0, MIN, MIN}, {0, MAX, MAX, MAX}, {MAX, MIN, 0, MIN}};
        for (int[] c : cases) {
            Trial t = fed(MAP, c[1], c[2], 1, 1);
            tell(t, 0, c[0]);
            t.due(c[3], "atLast", 2, 0);
            acts(t, 0, 1);
            acts(t, 1, 1);
            waiting(t, 1, c[3]);
        }
    }

    // SPLIT: "in 0 has a value"
    static void promise06SplitHasNoValue() {
        Trial t = leadingTwice(SPLIT, 2, 8, 8);
        t.cannot(1);
        tell(t, 0, 5, 6);
        t.cannot(1);
        acts(t, 0, 2);
        acts(t, 1, 1);
        t.can(1);
        acts(t, 1, 1);
        t.cannot(1);
    }

    // SPLIT: "Out 0 has the first turn; each time the turn changes."
    static void promise06SplitTakesTurns() {
        Trial t = leadingTwice(SPLIT, 8, 8, 8);
        tellMany(t, 0, 1, 5);
        acts(t, 0, 5);
        acts(t, 1, 1);
        waiting(t, 1, 1);
        waiting(t, 2);
        acts(t, 1, 1);
        waiting(t, 1, 1);
        waiting(t, 2, 2);
        acts(t, 1, 3);
        waiting(t, 1, 1, 3, 5);
        waiting(t, 2, 2, 4);
    }

    // SPLIT: "the out whose turn it is has room": out 0 is full, out 1 has room.
    static void promise06SplitOut0IsFullAtItsTurn() {
        Trial t = leadingTwice(SPLIT, 8, 1, 8);
        tellMany(t, 0, 1, 4);
        acts(t, 0, 4);
        acts(t, 1, 2);
        t.cannot(1);
        acts(t, 3, 1);
        t.cannot(1);
        acts(t, 2, 1);
        t.can(1);
        acts(t, 1, 1);
        waiting(t, 1, 3);
    }

    // SPLIT: "the out whose turn it is has room": out 1 is full, out 0 has room.
    static void promise06SplitOut1IsFullAtItsTurn() {
        Trial t = leadingTwice(SPLIT, 8, 8, 1);
        tellMany(t, 0, 1, 5);
        acts(t, 0, 5);
        acts(t, 1, 3);
        t.cannot(1);
        acts(t, 2, 1);
        t.cannot(1);
        acts(t, 3, 1);
        t.can(1);
        acts(t, 1, 1);
        waiting(t, 2, 4);
    }

    // SPLIT: a full out is of no matter while the other has the turn.
    static void promise06SplitOtherOutIsFull() {
        Trial t = leadingTwice(SPLIT, 8, 1, 1);
        tellMany(t, 0, 1, 4);
        acts(t, 0, 4);
        acts(t, 1, 1);
        t.can(1);
        acts(t, 1, 1);
        t.cannot(1);
        acts(t, 2, 1);
        t.due(1, "waits", 2);
        t.can(1);
    }

    // SPLIT: "An out without a channel takes any values", and has its turns like another.
    static void promise06SplitWithOneOutJoined() {
        for (int out = 0; out < 2; out++) {
            Trial t = yard(SOURCE, SPLIT, SINK);
            t.due(0, "channel", 0, 0, 1, 0, 8);
            t.due(1, "channel", 1, out, 2, 0, 1);
            tellMany(t, 0, 0, 6);
            settle(t);
            kept(t, 2, out, out + 2, out + 4);
            t.due(6, "acted", 1);
        }
    }

    // MERGE: "the in whose turn it is has a value": in 0 has the first turn.
    static void promise06MergeIn0HasTheFirstTurn() {
        Trial t = fedTwice(MERGE, 8, 8);
        tell(t, 0, 1);
        tell(t, 1, 10);
        t.cannot(2);
        acts(t, 1, 1);
        t.cannot(2);
        acts(t, 0, 1);
        t.can(2);
        acts(t, 2, 1);
        waiting(t, 0);
        waiting(t, 1, 10);
        waiting(t, 2, 1);
    }

    // MERGE: the turn is in 1's, and only in 0 has values.
    static void promise06MergeIn1HasNoneAtItsTurn() {
        Trial t = fedTwice(MERGE, 8, 8);
        tell(t, 0, 1, 2, 3);
        tell(t, 1, 10);
        acts(t, 0, 3);
        acts(t, 2, 1);
        t.cannot(2);
        acts(t, 1, 1);
        t.can(2);
        acts(t, 2, 1);
        waiting(t, 2, 1, 10);
        acts(t, 2, 1);
        t.cannot(2);
        waiting(t, 2, 1, 10, 2);
        waiting(t, 0, 3);
    }

    // MERGE: the turn is in 0's again, and only in 1 has values.
    static void promise06MergeIn0HasNoneAtItsTurn() {
        Trial t = fedTwice(MERGE, 8, 8);
        tell(t, 0, 1);
        tell(t, 1, 10, 20);
        acts(t, 0, 1);
        acts(t, 1, 2);
        acts(t, 2, 2);
        t.cannot(2);
        waiting(t, 1, 20);
    }

    // MERGE: "and out 0 has room"
    static void promise06MergeHasNoRoom() {
        Trial t = fedTwice(MERGE, 8, 2);
        tell(t, 0, 1, 2);
        tell(t, 1, 10, 20);
        acts(t, 0, 2);
        acts(t, 1, 2);
        acts(t, 2, 1);
        t.can(2);
        acts(t, 2, 1);
        t.cannot(2);
        acts(t, 3, 1);
        t.can(2);
        acts(t, 2, 1);
        t.cannot(2);
        waiting(t, 2, 10, 2);
    }

    // SUM: "both ins have values": neither, one of them, both, one of them again.
    static void promise06SumLacksAValue() {
        Trial t = fedTwice(SUM, 8, 8);
        t.cannot(2);
        tell(t, 0, 1, 2);
        tell(t, 1, 10, 20);
        Trial other = t.again();
        acts(t, 0, 2);
        t.cannot(2);
        acts(t, 1, 1);
        t.can(2);
        acts(t, 2, 1);
        t.cannot(2);
        waiting(t, 0, 2);
        other.cannot(2);
        acts(other, 1, 2);
        other.cannot(2);
        acts(other, 0, 1);
        other.can(2);
        acts(other, 2, 1);
        other.cannot(2);
        waiting(other, 1, 20);
    }

    // SUM: "and out 0 has room"
    static void promise06SumHasNoRoom() {
        Trial t = fedTwice(SUM, 8, 2);
        tell(t, 0, 1, 2, 0);
        tell(t, 1, 10, 20, 0);
        acts(t, 0, 3);
        acts(t, 1, 3);
        acts(t, 2, 1);
        t.can(2);
        acts(t, 2, 1);
        t.cannot(2);
        acts(t, 3, 1);
        t.can(2);
    }

    // SUM: "their sum, as ints do it": it wraps around.
    static void promise06SumWrapsAround() {
        int[][] cases = {
            {MAX, 0, MAX}, {MAX, 1, MIN}, {1, MAX, MIN}, {MIN, -1, MAX}, {-1, MIN, MAX},
            {MAX, MAX, -2}, {MIN, MIN, 0}, {MIN, MAX, -1}, {MAX - 1, 1, MAX}, {MIN + 1, -1, MIN}};
        for (int[] c : cases) {
            Trial t = fedTwice(SUM, 1, 1);
            tell(t, 0, c[0]);
            tell(t, 1, c[1]);
            t.due(c[2], "atLast", 3, 0);
            acts(t, 0, 1);
            acts(t, 1, 1);
            acts(t, 2, 1);
            waiting(t, 2, c[2]);
        }
    }

    // DELAY: "the first time: out 0 has room: gives a": it needs no value and takes none.
    static void promise06DelayTheFirstTime() {
        int[] firsts = {MIN, -1, 0, 1, MAX};
        for (int a : firsts) {
            Trial t = fed(DELAY, a, 5, 2, 2);
            t.can(1);
            tell(t, 0, 8, 9);
            acts(t, 0, 2);
            acts(t, 1, 1);
            waiting(t, 0, 8, 9);
            waiting(t, 1, a);
            acts(t, 1, 1);
            waiting(t, 1, a, 8);
        }
    }

    // DELAY: "Then: in 0 has a value"
    static void promise06DelayHasNoValueThen() {
        Trial t = fed(DELAY, 4, 0, 2, 8);
        tell(t, 0, 8);
        acts(t, 1, 1);
        t.cannot(1);
        acts(t, 0, 1);
        t.can(1);
        acts(t, 1, 1);
        t.cannot(1);
        waiting(t, 1, 4, 8);
    }

    // DELAY: "Then: .. out 0 has room"
    static void promise06DelayHasNoRoom() {
        Trial t = fed(DELAY, 4, 0, 8, 2);
        tell(t, 0, 8, 9);
        acts(t, 0, 2);
        acts(t, 1, 1);
        t.can(1);
        acts(t, 1, 1);
        t.cannot(1);
        acts(t, 2, 1);
        t.can(1);
        acts(t, 1, 1);
        waiting(t, 1, 8, 9);
    }

    // DELAY: the first time comes once, be it asked in vain before or not.
    static void promise06DelayHasOneFirstTime() {
        Trial t = yard(SINK);
        t.due(1, "actor", DELAY, 6, 0);
        t.due(0, "channel", 1, 0, 0, 0, 1);
        acts(t, 1, 1);
        t.cannot(1);
        acts(t, 0, 1);
        t.cannot(1);
        kept(t, 0, 6);
    }

    // SINK: "in 0 has a value"
    static void promise06SinkHasNoValue() {
        Trial t = yard(SOURCE, SINK);
        t.cannot(1);
        t.due(0, "channel", 0, 0, 1, 0, 2);
        t.cannot(1);
        tell(t, 0, 0, 5);
        t.cannot(1);
        acts(t, 0, 2);
        acts(t, 1, 1);
        t.can(1);
        acts(t, 1, 1);
        t.cannot(1);
        kept(t, 1, 0, 5);
    }

    // SINK: "it KEPT less than 60": the sixtieth is kept, the next stays where it is.
    static void promise06SinkKeepsSixty() {
        Trial t = ring();
        t.due(2, "actor", SINK, 0, 0);
        t.due(2, "channel", 1, 1, 2, 0, 3);
        for (int k = 0; k < 59; k++) {
            acts(t, 0, 1);
            acts(t, 1, 1);
            acts(t, 2, 1);
        }
        acts(t, 0, 1);
        acts(t, 1, 1);
        t.due(59, "kept", 2);
        t.can(2);
        acts(t, 2, 1);
        t.due(60, "kept", 2);
        t.cannot(2);
        acts(t, 0, 1);
        acts(t, 1, 1);
        waiting(t, 2, 7);
        t.cannot(2);
        t.due(7, "at", 2, 59);
        t.due(NO_VALUE, "at", 2, 60);
    }

    // GATE: "both ins have values": neither, one of them, both.
    static void promise06GateLacksAValue() {
        int[] keys = {0, 1};
        for (int key : keys) {
            Trial t = fedTwice(GATE, 8, 8);
            t.cannot(2);
            tell(t, 0, key);
            tell(t, 1, 10);
            Trial other = t.again();
            acts(t, 0, 1);
            t.cannot(2);
            acts(t, 1, 1);
            t.can(2);
            acts(other, 1, 1);
            other.cannot(2);
            acts(other, 0, 1);
            other.can(2);
            acts(other, 2, 1);
            other.cannot(2);
        }
    }

    // GATE: "that of in 0 is 0 (both are lost)": with room, and without.
    static void promise06GateLosesBoth() {
        Trial t = fedTwice(GATE, 8, 1);
        tell(t, 0, 0, 1, 0, 0);
        tell(t, 1, 10, 20, 30, 40);
        acts(t, 0, 4);
        acts(t, 1, 4);
        t.can(2);
        acts(t, 2, 1);
        waiting(t, 2);
        acts(t, 2, 1);
        waiting(t, 2, 20);
        t.can(2);
        acts(t, 2, 1);
        waiting(t, 2, 20);
        waiting(t, 0, 0);
        waiting(t, 1, 40);
        t.due(3, "acted", 2);
        acts(t, 2, 1);
        t.cannot(2);
    }

    // GATE: "or out 0 has room": when the value of in 0 is not 0.
    static void promise06GateHasNoRoom() {
        int[] keys = {1, -1, MIN, MAX, 256, 65536};
        for (int key : keys) {
            Trial t = fedTwice(GATE, 8, 1);
            tell(t, 0, key, key);
            tell(t, 1, 10, 20);
            acts(t, 0, 2);
            acts(t, 1, 2);
            acts(t, 2, 1);
            waiting(t, 2, 10);
            t.cannot(2);
            acts(t, 3, 1);
            t.can(2);
            acts(t, 2, 1);
            waiting(t, 2, 20);
        }
    }

    // GATE: "that of in 1 is given": also when it is 0, for it is in 0 that counts.
    static void promise06GateGivesZeroOfIn1() {
        Trial t = fedTwice(GATE, 8, 1);
        tell(t, 0, 5, 5);
        tell(t, 1, 0, 0);
        acts(t, 0, 2);
        acts(t, 1, 2);
        acts(t, 2, 1);
        waiting(t, 2, 0);
        t.cannot(2);
    }

    // GATE: it is the first value of in 0 that counts, not a later one.
    static void promise06GateLooksAtTheFirstValue() {
        Trial t = fedTwice(GATE, 8, 1);
        tell(t, 0, 3, 4, 0);
        tell(t, 1, 10, 20, 30);
        acts(t, 0, 3);
        acts(t, 1, 3);
        acts(t, 2, 1);
        t.cannot(2);
        acts(t, 3, 1);
        acts(t, 2, 1);
        t.can(2);
        acts(t, 2, 1);
        waiting(t, 2, 20);
    }

    // COPY: "in 0 has a value"
    static void promise06CopyHasNoValue() {
        Trial t = leadingTwice(COPY, 2, 8, 8);
        t.cannot(1);
        tell(t, 0, 5);
        t.cannot(1);
        acts(t, 0, 1);
        t.can(1);
        acts(t, 1, 1);
        t.cannot(1);
        waiting(t, 1, 5);
        waiting(t, 2, 5);
    }

    // COPY: "both outs have room": out 0 alone is full, out 1 alone, both, neither.
    static void promise06CopyLacksRoom() {
        Trial t = leadingTwice(COPY, 8, 2, 2);
        tellMany(t, 0, 1, 4);
        acts(t, 0, 4);
        acts(t, 1, 1);
        t.can(1);
        acts(t, 1, 1);
        t.cannot(1);
        Trial other = t.again();
        acts(t, 2, 2);
        t.cannot(1);
        acts(t, 3, 1);
        t.can(1);
        acts(t, 1, 1);
        waiting(t, 1, 3);
        waiting(t, 2, 2, 3);
        acts(other, 3, 2);
        other.cannot(1);
        acts(other, 2, 1);
        other.can(1);
    }

    // COPY: "An out without a channel takes any values": the other out alone counts.
    static void promise06CopyWithOneOutJoined() {
        for (int out = 0; out < 2; out++) {
            Trial t = yard(SOURCE, COPY, SINK);
            t.due(0, "channel", 0, 0, 1, 0, 8);
            t.due(1, "channel", 1, out, 2, 0, 1);
            tellMany(t, 0, 1, 3);
            acts(t, 0, 3);
            acts(t, 1, 1);
            t.cannot(1);
            settle(t);
            kept(t, 2, 1, 2, 3);
        }
    }

    // "An out without a channel takes any values (they are lost)": more than any room has.
    static void promise06OutWithoutAChannel() {
        int[] kinds = {MAP, SPLIT, MERGE, SUM, DELAY, GATE, COPY};
        for (int kind : kinds) {
            Trial t = yard(SOURCE, SOURCE, kind);
            for (int in = 0; in < INS[kind]; in++) {
                t.due(in, "channel", in, 0, 2, in, 8);
                tellMany(t, in, 1, 20);
            }
            int times = kind == MERGE ? 40 : kind == DELAY ? 21 : 20;
            t.due(times, "actedAtLast", 2);
            settle(t);
            t.due(times, "acted", 2);
            t.due(0, "waits", 0);
            t.due(NONE, "fullAtLast", 0);
        }
    }

    // "an in without one never has any"
    static void promise06InWithoutAChannel() {
        int[] kinds = {MAP, SPLIT, MERGE, SUM, SINK, GATE, COPY};
        for (int kind : kinds) {
            Trial t = yard(kind, SINK);
            t.cannot(0);
            if (OUTS[kind] > 0) {
                t.due(0, "channel", 0, 0, 1, 0, 1);
                t.cannot(0);
            }
        }
        Trial delay = yard(DELAY);
        acts(delay, 0, 1);
        delay.cannot(0);
    }

    // "an in without one never has any": one of two is joined.
    static void promise06OneOfTwoInsJoined() {
        int[] kinds = {MERGE, SUM, GATE};
        for (int kind : kinds) {
            for (int in = 0; in < 2; in++) {
                Trial t = yard(SOURCE, kind);
                t.due(0, "channel", 0, 0, 1, in, 8);
                tell(t, 0, 0, 1, 0);
                acts(t, 0, 3);
                int times = kind == MERGE && in == 0 ? 1 : 0;
                acts(t, 1, times);
                t.cannot(1);
                t.due(3 - times, "waits", 0);
                t.due(times, "actedAtLast", 1);
            }
        }
    }

    // "Values go through a channel in their order": for each room, and all the way round it.
    static void promise06ValuesKeepTheirOrder() {
        for (int room = 1; room <= 8; room++) {
            Trial t = yard(SOURCE, SINK);
            t.due(0, "channel", 0, 0, 1, 0, room);
            tellMany(t, 0, 30, 20);
            acts(t, 0, room);
            for (int taken = 0; taken < 20; taken++) {
                t.due(Math.min(room, 20 - taken), "waits", 0);
                t.due(30 + taken, "waiting", 0, 0);
                int last = Math.min(taken + room, 20) - 1;
                t.due(30 + last, "waiting", 0, last - taken);
                acts(t, 1, 1);
                if (taken + room < 20) {
                    acts(t, 0, 1);
                }
            }
            for (int k = 0; k < 20; k++) {
                t.due(30 + k, "at", 1, k);
            }
        }
    }

    // "when it did so less than 100 times": DELAY has a value left, and room.
    static void promise06DelayActsAHundredTimes() {
        Trial t = ring();
        t.due(2, "actor", DELAY, 3, 0);
        t.due(2, "channel", 1, 1, 2, 0, 2);
        for (int k = 0; k < 98; k++) {
            acts(t, 0, 1);
            acts(t, 1, 1);
            acts(t, 2, 1);
        }
        acts(t, 2, 1);
        acts(t, 0, 1);
        acts(t, 1, 1);
        t.due(99, "acted", 2);
        t.can(2);
        settle(t);
        t.due(100, "acted", 2);
        t.due(1, "waits", 2);
        t.cannot(2);
    }

    // "when it did so less than 100 times": MERGE has values left at both ins, and room.
    static void promise06MergeActsAHundredTimes() {
        Trial t = ring();
        t.due(2, "actor", DELAY, 9, 0);
        t.due(3, "actor", COPY, 0, 0);
        t.due(4, "actor", MERGE, 0, 0);
        t.due(2, "channel", 2, 0, 3, 0, 1);
        t.due(3, "channel", 3, 0, 2, 0, 1);
        t.due(4, "channel", 1, 1, 4, 0, 1);
        t.due(5, "channel", 3, 1, 4, 1, 1);
        t.due(100, "actedAtLast", 4);
        acts(t, 0, 1);
        acts(t, 1, 1);
        for (int k = 0; k < 99; k++) {
            int lead = k % 2 == 0 ? 2 : 0;
            acts(t, lead, 1);
            acts(t, lead + 1, 1);
            acts(t, 4, 1);
        }
        t.due(99, "acted", 4);
        t.can(4);
        acts(t, 4, 1);
        settle(t);
        t.due(100, "acted", 4);
        waiting(t, 4, 7);
        waiting(t, 5, 9);
        t.cannot(4);
    }

    // "less than 100 times": the hundredth is taken; no in of these ever gets a value more.
    static void promise06OthersActAHundredTimes() {
        int[] kinds = {MAP, SPLIT, SUM, GATE, COPY};
        for (int kind : kinds) {
            Trial t = ring();
            t.due(2, "actor", COPY, 0, 0);
            t.due(3, "actor", kind, 1, 1);
            t.due(2, "channel", 1, 1, 2, 0, 1);
            for (int in = 0; in < INS[kind]; in++) {
                t.due(3 + in, "channel", 2, in, 3, in, 1);
            }
            t.due(100, "actedAtLast", 3);
            t.due(396, "run", 8, 396);
            settle(t);
            t.due(100, "acted", 3);
            t.cannot(3);
            t.due(100, "acted", 0);
            t.due(100, "acted", 1);
            t.cannot(0);
            t.cannot(1);
        }
    }

    // "when it did so less than 100 times": the hundredth act, asked for by itself.
    static void promise06HundredthActOfADelayToItself() {
        Trial t = new Trial();
        t.due(0, "actor", DELAY, 4, 0);
        t.due(0, "channel", 0, 0, 0, 0, 2);
        acts(t, 0, 99);
        t.can(0);
        acts(t, 0, 1);
        t.due(100, "acted", 0);
        waiting(t, 0, 4);
        t.cannot(0);
    }

    // A channel from an actor to itself has no room while it is full, though a value of it
    // would be taken: whether there is room is part of whether it can act at all.
    static void promise06FullChannelToItself() {
        Trial t = new Trial();
        t.due(0, "actor", DELAY, 4, 0);
        t.due(0, "channel", 0, 0, 0, 0, 1);
        acts(t, 0, 1);
        waiting(t, 0, 4);
        t.cannot(0);
    }
}
