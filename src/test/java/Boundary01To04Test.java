/** The boundary cases of promises 1 to 4: a new object, actors, values told, channels. */
public final class Boundary01To04Test extends Boundaries {
    public static void main(String[] args) {
        runAll(Boundary01To04Test.class);
    }

    // "No actors, no channels."
    static void promise01NothingIsThere() {
        int[] numbers = {MIN, -1, 0, 1, 9, 10, 15, 16, MAX};
        Trial t = new Trial();
        for (int n : numbers) {
            t.refused("can", n);
            t.refused("act", n);
            t.refused("acted", n);
            t.refused("kept", n);
            t.refused("at", n, 0);
            t.refused("waits", n);
            t.refused("waiting", n, 0);
            t.refused("keptAtLast", n);
            t.refused("atLast", n, 0);
            t.refused("actedAtLast", n);
            t.refused("fullAtLast", n);
            t.refused("value", n, 1);
            t.refused("channel", n, 0, n, 0, 1);
        }
    }

    // "No actors": so none acts, and that is no refusal.
    static void promise01NoneActs() {
        Trial t = new Trial();
        t.same(0, "run", 1, 2000);
        t.same(0, "run", 1, 0);
    }

    // "No actors, no channels": the first ones have number 0.
    static void promise01FirstNumbersAreZero() {
        Trial t = new Trial();
        t.due(0, "actor", COPY, 0, 0);
        t.due(0, "channel", 0, 1, 0, 0, 1);
    }

    // "No actors, no channels", though another object has some.
    static void promise01NewObjectIsEmptyBesideAFullOne() {
        Trial empty = new Trial();
        Trial busy = fed(DELAY, 1, 0, 2, 2);
        tell(busy, 0, 5);
        settle(busy);
        empty.sameAs(new Trial());
        new Trial().refused("acted", 0);
        busy.due(2, "kept", 2);
    }

    // "An object is used for at most 512 calls": the 512th still answers.
    static void promise01CallNumber512() {
        for (int last = 0; last < 5; last++) {
            YardActors x = new YardActors();
            x.actor(SOURCE, 0, 0);
            x.actor(SINK, 0, 0);
            x.channel(0, 0, 1, 0, 1);
            x.value(0, 6);
            for (int call = 4; call < 511; call++) {
                x.actor(9, call, call);
            }
            checkCall512(x, last);
        }
    }

    private static void checkCall512(YardActors x, int last) {
        boolean holds;
        switch (last) {
            case 0: holds = x.actor(SINK, 0, 0) == 2; break;
            case 1: holds = x.value(0, 7); break;
            case 2: holds = x.act(0); break;
            case 3: holds = x.run(1L, 2000) == 2; break;
            default: holds = x.atLast(1, 0) == 6; break;
        }
        if (!holds) {
            Trial.fault("call 512 does not answer as due, case " + last);
        }
    }

    // "NONE when there are 10": of whatever kinds they are, and whatever kind comes next.
    static void promise02TenthIsTakenEleventhRefused() {
        for (int kind = 0; kind < KINDS; kind++) {
            Trial t = yard(kind, kind, kind, kind, kind, kind, kind, kind, kind);
            t.due(NONE, "acted", 9);
            t.due(9, "actor", kind, 3, 4);
            t.due(0, "acted", 9);
            for (int next = 0; next < KINDS; next++) {
                t.refused("actor", next, 1, 2);
            }
            t.refused("acted", 10);
        }
    }

    // "NONE when there are 10", still so when all is settled.
    static void promise02EleventhIsRefusedBehindARun() {
        Trial t = yard(SOURCE, SINK, DELAY, DELAY, DELAY, DELAY, DELAY, DELAY, DELAY, MAP);
        t.due(0, "channel", 0, 0, 1, 0, 1);
        tell(t, 0, 1, 2);
        settle(t);
        t.refused("actor", SOURCE, 0, 0);
        t.refused("actor", SINK, 0, 0);
    }

    // "or there is no such kind": 0 and 8 are the outermost.
    static void promise02KindsAreZeroToEight() {
        Trial t = new Trial();
        t.refused("actor", -1, 0, 0);
        t.refused("actor", 9, 0, 0);
        for (int kind : FAR) {
            t.refused("actor", kind, 0, 0);
        }
        t.due(0, "actor", 0, 0, 0);
        t.due(1, "actor", 8, 0, 0);
        t.refused("actor", -1, 0, 0);
        t.refused("actor", 9, 0, 0);
        t.due(2, "actor", 8, 0, 0);
    }

    // Both reasons to refuse at once.
    static void promise02NoSuchKindWhenThereAreTen() {
        Trial t = yard(0, 1, 2, 3, 4, 5, 6, 7, 8);
        t.refused("actor", 9, 0, 0);
        t.refused("actor", -1, 0, 0);
        t.due(9, "actor", 8, 0, 0);
        t.refused("actor", 9, 0, 0);
        t.refused("actor", -1, 0, 0);
    }

    // "A call that is refused changes nothing": no number is used up.
    static void promise02RefusedKindUsesUpNoNumber() {
        Trial t = new Trial();
        for (int n = 0; n < 10; n++) {
            t.due(NONE, "actor", 9, n, n);
            t.due(NONE, "actor", -1, n, n);
            t.due(n, "actor", n % KINDS, n, n);
            t.due(NONE, "actor", MIN, n, n);
        }
    }

    // "a and b are of matter for MAP, a for DELAY alone": a and b of the others may be any.
    static void promise02AAndBMatterToNoOther() {
        int[] others = {SOURCE, SPLIT, MERGE, SUM, SINK, GATE, COPY};
        int[][] pairs = {{1, 0}, {0, 1}, {MIN, MAX}, {-1, -1}, {MAX, MIN}};
        for (int kind : others) {
            Trial plain = amidst(kind, 0, 0);
            for (int[] pair : pairs) {
                amidst(kind, pair[0], pair[1]).sameAs(plain);
            }
        }
        amidst(DELAY, 4, 1).sameAs(amidst(DELAY, 4, MIN));
    }

    // "a and b are of matter for MAP, a for DELAY alone"
    static void promise02AAndBMatterToMapAndDelay() {
        int[] values = {MIN, -1, 0, 1, MAX};
        for (int a : values) {
            Trial delay = yard(SINK);
            delay.due(1, "actor", DELAY, a, 9);
            delay.due(0, "channel", 1, 0, 0, 0, 1);
            delay.due(a, "atLast", 0, 0);
            for (int b : values) {
                Trial map = fed(MAP, a, b, 1, 1);
                tell(map, 0, 3);
                map.due((int) (3L * a + b), "atLast", 2, 0);
            }
        }
    }

    /** An actor between two sources and two sinks, its ends all joined, some acts done. */
    private static Trial amidst(int kind, int a, int b) {
        Trial t = yard(SOURCE, SOURCE);
        t.due(2, "actor", kind, a, b);
        t.due(3, "actor", SINK, 0, 0);
        t.due(4, "actor", SINK, a, b);
        for (int in = 0; in < INS[kind]; in++) {
            t.due(in, "channel", in, 0, 2, in, 2);
        }
        for (int out = 0; out < OUTS[kind]; out++) {
            t.due(INS[kind] + out, "channel", 2, out, 3 + out, 0, 2);
        }
        tell(t, 0, 5, 0, 7);
        tell(t, 1, 11, 12, 13);
        t.ask("value", 2, 17);
        t.ask("run", 3, 4);
        return t;
    }

    // "or it was told 20": the twentieth is taken, the next is not.
    static void promise03TwentiethIsTakenNextRefused() {
        Trial t = yard(SOURCE, SINK);
        t.due(0, "channel", 0, 0, 1, 0, 8);
        tellMany(t, 0, 100, 19);
        t.due(19, "actedAtLast", 0);
        t.yes("value", 0, 119);
        t.due(20, "actedAtLast", 0);
        t.refused("value", 0, 120);
        t.refused("value", 0, MIN);
        t.due(NO_VALUE, "atLast", 1, 20);
        settle(t);
        for (int k = 0; k < 20; k++) {
            t.due(100 + k, "at", 1, k);
        }
        t.due(20, "kept", 1);
    }

    // "it was told 20": that values are gone makes no place for others.
    static void promise03TwentyInAllThoughSomeAreGiven() {
        Trial t = yard(SOURCE);
        tellMany(t, 0, 0, 20);
        acts(t, 0, 1);
        t.refused("value", 0, 1);
        acts(t, 0, 18);
        t.refused("value", 0, 1);
        acts(t, 0, 1);
        t.cannot(0);
        t.refused("value", 0, 1);
    }

    // The twentieth is taken though all others are gone, and it is given.
    static void promise03TwentiethBehindNineteenGiven() {
        Trial t = yard(SOURCE, SINK);
        t.due(0, "channel", 0, 0, 1, 0, 1);
        tellMany(t, 0, 0, 19);
        settle(t);
        t.cannot(0);
        t.yes("value", 0, 77);
        t.can(0);
        t.refused("value", 0, 78);
        settle(t);
        t.due(77, "at", 1, 19);
        t.due(20, "kept", 1);
        t.refused("value", 0, 78);
    }

    // "A source is told one more value": each has twenty of its own.
    static void promise03EachSourceHasItsTwenty() {
        Trial t = yard(SOURCE, MAP, SOURCE);
        tellMany(t, 0, 0, 20);
        t.refused("value", 0, 1);
        tellMany(t, 2, 50, 20);
        t.refused("value", 2, 1);
        t.due(20, "actedAtLast", 0);
        t.due(20, "actedAtLast", 2);
    }

    // "false when there is none such": no such number.
    static void promise03NoSuchActor() {
        Trial t = yard(SOURCE, SOURCE);
        t.refused("value", -1, 5);
        t.refused("value", 2, 5);
        t.refused("value", 9, 5);
        t.refused("value", 10, 5);
        for (int n : FAR) {
            t.refused("value", n, 5);
        }
        t.yes("value", 0, 5);
        t.yes("value", 1, 5);
    }

    // "false when there is none such": an actor, but no source.
    static void promise03NoSource() {
        for (int kind = 1; kind < KINDS; kind++) {
            Trial t = yard(SOURCE, kind);
            t.refused("value", 1, 5);
            t.yes("value", 0, 5);
        }
    }

    // The last number there can be.
    static void promise03TenthActorIsASource() {
        Trial t = yard(1, 2, 3, 4, 5, 6, 7, 8, 1, SOURCE);
        t.yes("value", 9, 5);
        t.refused("value", 8, 5);
        t.refused("value", 10, 5);
    }

    // "VALUES are ints": the outermost go through as they are.
    static void promise03OutermostValues() {
        Trial t = yard(SOURCE, SINK);
        t.due(0, "channel", 0, 0, 1, 0, 8);
        tell(t, 0, MIN, MAX, 0, -1, 1, MIN);
        acts(t, 0, 6);
        waiting(t, 0, MIN, MAX, 0, -1, 1, MIN);
        t.due(MIN, "atLast", 1, 0);
        settle(t);
        kept(t, 1, MIN, MAX, 0, -1, 1, MIN);
    }

    // "a ROOM of 1 .. 8 values": each is taken, and holds just so many.
    static void promise04RoomsOneToEight() {
        for (int room = 1; room <= 8; room++) {
            Trial t = yard(SOURCE, SINK);
            t.due(0, "channel", 0, 0, 1, 0, room);
            tellMany(t, 0, 0, 9);
            acts(t, 0, room - 1);
            t.can(0);
            acts(t, 0, 1);
            t.due(room, "waits", 0);
            t.cannot(0);
            acts(t, 1, 1);
            t.can(0);
        }
    }

    // "there are none such .. room"
    static void promise04NoSuchRoom() {
        Trial t = yard(SOURCE, SINK);
        t.refused("channel", 0, 0, 1, 0, 0);
        t.refused("channel", 0, 0, 1, 0, 9);
        t.refused("channel", 0, 0, 1, 0, -1);
        for (int room : FAR) {
            t.refused("channel", 0, 0, 1, 0, room);
        }
        t.due(0, "channel", 0, 0, 1, 0, 8);
    }

    // "there are none such .. out": the last out of each kind, and the first that it has not.
    static void promise04OutsOfEachKind() {
        for (int kind = 0; kind < KINDS; kind++) {
            Trial t = yard(kind, SUM);
            t.refused("channel", 0, -1, 1, 0, 1);
            t.refused("channel", 0, OUTS[kind], 1, 0, 1);
            t.refused("channel", 0, 2, 1, 0, 1);
            for (int out : FAR) {
                t.refused("channel", 0, out, 1, 0, 1);
            }
            for (int out = OUTS[kind] - 1; out >= 0; out--) {
                t.due(OUTS[kind] - 1 - out, "channel", 0, out, 1, out, 1);
            }
            t.refused("channel", 0, OUTS[kind], 1, 1, 1);
        }
    }

    // "there are none such .. in": the last in of each kind, and the first that it has not.
    static void promise04InsOfEachKind() {
        for (int kind = 0; kind < KINDS; kind++) {
            Trial t = yard(COPY, kind);
            t.refused("channel", 0, 0, 1, -1, 1);
            t.refused("channel", 0, 0, 1, INS[kind], 1);
            t.refused("channel", 0, 0, 1, 2, 1);
            for (int in : FAR) {
                t.refused("channel", 0, 0, 1, in, 1);
            }
            for (int in = INS[kind] - 1; in >= 0; in--) {
                t.due(INS[kind] - 1 - in, "channel", 0, in, 1, in, 1);
            }
            t.refused("channel", 0, 1, 1, INS[kind], 1);
        }
    }

    // "there are none such actors"
    static void promise04NoSuchActors() {
        Trial t = yard(COPY, COPY, COPY);
        t.refused("channel", -1, 0, 1, 0, 1);
        t.refused("channel", 3, 0, 1, 0, 1);
        t.refused("channel", 0, 0, -1, 0, 1);
        t.refused("channel", 0, 0, 3, 0, 1);
        t.refused("channel", -1, 0, 3, 0, 1);
        for (int n : FAR) {
            t.refused("channel", n, 0, 1, 0, 1);
            t.refused("channel", 0, 0, n, 0, 1);
            t.refused("channel", n, 0, n, 0, 1);
        }
        t.due(0, "channel", 0, 0, 2, 0, 1);
        t.due(1, "channel", 2, 0, 0, 0, 1);
    }

    // The last numbers there can be.
    static void promise04TenthActor() {
        Trial t = yard(COPY, 1, 2, 3, 4, 5, 6, 7, 8, COPY);
        t.refused("channel", 0, 0, 10, 0, 1);
        t.refused("channel", 10, 0, 0, 0, 1);
        t.due(0, "channel", 0, 0, 9, 0, 1);
        t.due(1, "channel", 9, 1, 0, 0, 1);
    }

    // "or one of both has a channel": the out.
    static void promise04OutHasOne() {
        Trial t = yard(SPLIT, SUM, SINK);
        t.due(0, "channel", 0, 0, 1, 0, 2);
        t.refused("channel", 0, 0, 1, 1, 2);
        t.refused("channel", 0, 0, 2, 0, 2);
        t.due(1, "channel", 0, 1, 1, 1, 2);
        t.refused("channel", 0, 1, 2, 0, 2);
    }

    // "or one of both has a channel": the in.
    static void promise04InHasOne() {
        Trial t = yard(SOURCE, COPY, MERGE);
        t.due(0, "channel", 0, 0, 2, 0, 2);
        t.refused("channel", 1, 0, 2, 0, 2);
        t.refused("channel", 1, 1, 2, 0, 2);
        t.due(1, "channel", 1, 0, 2, 1, 2);
        t.refused("channel", 1, 1, 2, 1, 2);
    }

    // "or one of both has a channel": both, the very same channel again among them.
    static void promise04BothHaveOne() {
        Trial t = yard(SPLIT, SUM);
        t.due(0, "channel", 0, 0, 1, 0, 2);
        t.refused("channel", 0, 0, 1, 0, 2);
        t.refused("channel", 0, 0, 1, 0, 3);
        t.due(1, "channel", 0, 1, 1, 1, 2);
        t.refused("channel", 0, 0, 1, 1, 2);
        t.refused("channel", 0, 1, 1, 0, 2);
    }

    // A channel stays its out's and its in's, be it full, or empty again.
    static void promise04EndsStayJoined() {
        Trial t = yard(SOURCE, SINK, SOURCE, SINK);
        t.due(0, "channel", 0, 0, 1, 0, 1);
        tell(t, 0, 4, 5);
        acts(t, 0, 1);
        t.refused("channel", 0, 0, 3, 0, 1);
        t.refused("channel", 2, 0, 1, 0, 1);
        settle(t);
        t.refused("channel", 0, 0, 3, 0, 1);
        t.refused("channel", 2, 0, 1, 0, 1);
        t.due(1, "channel", 2, 0, 3, 0, 1);
    }

    // "A call that is refused changes nothing": its good end stays free, no number is used up.
    static void promise04RefusedJoinsNeitherEnd() {
        Trial t = yard(SOURCE, SINK, SOURCE, SINK);
        t.due(NONE, "channel", 0, 0, 1, 1, 1);
        t.due(NONE, "channel", 0, 0, 4, 0, 1);
        t.due(NONE, "channel", 0, 1, 1, 0, 1);
        t.due(NONE, "channel", -1, 0, 1, 0, 1);
        t.due(NONE, "channel", 0, 0, 1, 0, 9);
        t.due(0, "channel", 0, 0, 1, 0, 1);
        t.due(NONE, "channel", 0, 0, 3, 0, 1);
        t.due(NONE, "channel", 2, 0, 1, 0, 1);
        t.due(1, "channel", 2, 0, 3, 0, 1);
        tell(t, 0, 8);
        tell(t, 2, 9);
        settle(t);
        kept(t, 1, 8);
        kept(t, 3, 9);
    }

    // All that can be wrong, wrong at once.
    static void promise04ManyReasonsAtOnce() {
        Trial t = yard(SOURCE, SINK);
        t.due(0, "channel", 0, 0, 1, 0, 1);
        t.refused("channel", 0, 0, 1, 0, 9);
        t.refused("channel", 0, 1, 1, 1, 0);
        t.refused("channel", 2, 2, 2, 2, 0);
        t.refused("channel", MIN, MIN, MIN, MIN, MIN);
        t.refused("channel", MAX, MAX, MAX, MAX, MAX);
        t.refused("channel", -1, -1, -1, -1, -1);
    }

    // "16 at most": ten actors have 30 ins and outs at most, so the last that can be taken is
    // the fifteenth, and a sixteenth is refused, whatever ends it names.
    static void promise04FifteenthIsTakenNextRefused() {
        Trial t = allEndsJoined();
        t.due(0, "waits", 14);
        t.refused("waits", 15);
        for (int from = 0; from < 10; from++) {
            for (int out = 0; out < 2; out++) {
                t.refused("channel", from, out, 9 - from, 0, 8);
                t.refused("channel", from, out, (from + 1) % 10, 1, 1);
            }
        }
    }

    // "each from an out to an in": they may be of one actor.
    static void promise04FromAnActorToItself() {
        Trial t = yard(COPY, MERGE);
        t.due(0, "channel", 1, 0, 1, 1, 2);
        t.refused("channel", 1, 0, 1, 0, 2);
        t.due(1, "channel", 0, 1, 0, 0, 1);
        t.refused("channel", 0, 0, 0, 0, 1);
        t.due(2, "channel", 0, 0, 1, 0, 1);
    }

    // What an out lost before it had a channel does not come back; what comes later goes there.
    static void promise04JoinedBehindActs() {
        Trial t = yard(SOURCE, SINK);
        tell(t, 0, 1, 2, 3);
        acts(t, 0, 2);
        t.due(0, "channel", 0, 0, 1, 0, 1);
        t.due(0, "waits", 0);
        acts(t, 0, 1);
        waiting(t, 0, 3);
        settle(t);
        kept(t, 1, 3);
    }
}
