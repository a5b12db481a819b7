import java.util.ArrayDeque;
import java.util.Arrays;
import java.util.HashSet;
import java.util.Set;

/** The boundary cases of promises 13 to 16: what will be when all is settled. */
public final class Boundary13To16Test extends Boundaries {
    public static void main(String[] args) {
        runAll(Boundary13To16Test.class);
    }

    // "NONE when there is none such": no such number.
    static void promise13NoSuchActor() {
        Trial t = yard(SINK, SINK);
        t.same(0, "keptAtLast", 0);
        t.same(0, "keptAtLast", 1);
        t.refused("keptAtLast", -1);
        t.refused("keptAtLast", 2);
        for (int n : FAR) {
            t.refused("keptAtLast", n);
        }
    }

    // "NONE when there is none such": an actor, but no sink.
    static void promise13NoSink() {
        for (int kind = 0; kind < KINDS; kind++) {
            if (kind != SINK) {
                Trial t = yard(kind, SINK);
                t.ask("value", 0, 5);
                t.refused("keptAtLast", 0);
                t.same(0, "keptAtLast", 1);
            }
        }
    }

    // The last number there can be.
    static void promise13TenthActorIsASink() {
        Trial t = yard(0, 1, 2, 3, 4, 5, 0, 7, 8, SINK);
        t.due(0, "channel", 0, 0, 9, 0, 1);
        tell(t, 0, 5, 6, 7);
        t.same(3, "keptAtLast", 9);
        t.refused("keptAtLast", 10);
        t.same(7, "atLast", 9, 2);
        t.same(3, "actedAtLast", 9);
        t.refused("actedAtLast", 10);
    }

    // "it KEPT less than 60": a hundred come, 60 will be kept.
    static void promise13SixtyOfAHundred() {
        Trial t = ring();
        t.due(2, "actor", SINK, 0, 0);
        t.due(2, "channel", 1, 1, 2, 0, 8);
        t.same(60, "keptAtLast", 2);
        t.same(60, "actedAtLast", 2);
        t.same(7, "atLast", 2, 59);
        t.refused("atLast", 2, 60);
        t.same(2, "fullAtLast", 1);
        settle(t);
        t.same(60, "keptAtLast", 2);
        t.due(60, "kept", 2);
    }

    // Just 59, just 60, and 61 that come.
    static void promise13FiftyNineSixtySixtyOne() {
        for (int come = 59; come <= 61; come++) {
            Trial t = yard(SOURCE, SOURCE, SOURCE, SOURCE, MERGE, MERGE, MERGE, SINK);
            for (int s = 0; s < 4; s++) {
                t.due(s, "channel", s, 0, 4 + s / 2, s % 2, 1);
                tellMany(t, s, 100 * s, (come + 3 - order(s)) / 4);
            }
            t.due(4, "channel", 4, 0, 6, 0, 1);
            t.due(5, "channel", 5, 0, 6, 1, 1);
            t.due(6, "channel", 6, 0, 7, 0, 1);
            t.same(Math.min(come, 60), "keptAtLast", 7);
            t.refused("atLast", 7, Math.min(come, 60));
            t.due(come == 61 ? 6 : NONE, "fullAtLast", 0);
            settle(t);
            t.due(Math.min(come, 60), "kept", 7);
        }
    }

    /** The merges take the sources by turns in this order: 0, 2, 1, 3. */
    private static int order(int source) {
        return source == 1 ? 2 : source == 2 ? 1 : source;
    }

    // "will have kept": nothing has been kept by the asking.
    static void promise13AskingChangesNothing() {
        Trial t = fed(MAP, 2, 0, 1, 1);
        tell(t, 0, 1, 2, 3);
        t.same(3, "keptAtLast", 2);
        t.same(2, "atLast", 2, 0);
        t.same(3, "actedAtLast", 1);
        t.same(NONE, "fullAtLast", 0);
        t.due(0, "kept", 2);
        t.due(0, "acted", 0);
        acts(t, 0, 1);
        t.same(3, "keptAtLast", 2);
        t.same(6, "atLast", 2, 2);
        t.due(1, "waits", 0);
    }

    // What is kept already counts among what will have been kept.
    static void promise13KeptAlready() {
        Trial t = yard(SOURCE, SINK);
        t.due(0, "channel", 0, 0, 1, 0, 2);
        tell(t, 0, 5, 6);
        settle(t);
        t.same(2, "keptAtLast", 1);
        tell(t, 0, 7);
        t.same(3, "keptAtLast", 1);
        t.same(5, "atLast", 1, 0);
        t.same(7, "atLast", 1, 2);
        t.due(2, "kept", 1);
    }

    // "Long.MIN_VALUE when there is none such": k from 0 to one less than will be kept.
    static void promise14NoSuchPlace() {
        Trial t = yard(SOURCE, SINK);
        t.due(0, "channel", 0, 0, 1, 0, 1);
        t.refused("atLast", 1, 0);
        t.refused("atLast", 1, -1);
        for (int k = 0; k < 20; k++) {
            tell(t, 0, 5 + k);
            t.same(5 + k, "atLast", 1, k);
            t.refused("atLast", 1, k + 1);
        }
        t.refused("atLast", 1, -1);
        t.refused("atLast", 1, 59);
        t.refused("atLast", 1, 60);
        t.refused("atLast", 1, MIN);
        t.refused("atLast", 1, MAX);
    }

    // "Long.MIN_VALUE when there is none such": no such sink.
    static void promise14NoSuchSink() {
        Trial t = yard(SOURCE, SINK, MAP);
        t.due(0, "channel", 0, 0, 1, 0, 1);
        tell(t, 0, 5);
        t.refused("atLast", -1, 0);
        t.refused("atLast", 0, 0);
        t.refused("atLast", 2, 0);
        t.refused("atLast", 3, 0);
        for (int n : FAR) {
            t.refused("atLast", n, 0);
            t.refused("atLast", n, n);
        }
        t.same(5, "atLast", 1, 0);
    }

    // The last place there can be: 59; and the values there are the ones that came sixtieth.
    static void promise14Place59() {
        Trial t = countingRing(2);
        for (int k = 0; k < 60; k++) {
            t.due(k, "atLast", 2, k);
        }
        t.refused("atLast", 2, 60);
        t.refused("atLast", 2, -1);
        t.refused("at", 2, 0);
    }

    // A value may be any int; the least of them is not the answer for none.
    static void promise14LeastValueIsNotNone() {
        Trial t = yard(SOURCE, SINK);
        t.due(0, "channel", 0, 0, 1, 0, 1);
        tell(t, 0, MIN, NONE);
        t.due(-2147483648L, "atLast", 1, 0);
        t.due(-1, "atLast", 1, 1);
        t.due(Long.MIN_VALUE, "atLast", 1, 2);
    }

    // "NONE when there is none such"
    static void promise15NoSuchActor() {
        Trial t = yard(DELAY, SINK);
        t.same(1, "actedAtLast", 0);
        t.same(0, "actedAtLast", 1);
        t.refused("actedAtLast", -1);
        t.refused("actedAtLast", 2);
        for (int n : FAR) {
            t.refused("actedAtLast", n);
        }
    }

    // "less than 100 times": 100 is the greatest answer, for all ten at once.
    static void promise15HundredIsTheGreatest() {
        Trial t = new Trial();
        for (int n = 0; n < 10; n++) {
            t.due(n, "actor", DELAY, n, 0);
            t.due(n, "channel", n, 0, n, 0, n % 7 + 2);
        }
        for (int n = 0; n < 10; n++) {
            t.same(100, "actedAtLast", n);
            t.due(0, "acted", n);
        }
        t.due(999, "run", 6, 999);
        for (int n = 0; n < 10; n++) {
            t.due(100, "actedAtLast", n);
        }
    }

    // "less than 100 times": what stands in the way of one at its hundredth act is full at last.
    static void promise15HundredStopsThoseBehind() {
        Trial t = ring();
        t.due(2, "actor", DELAY, 3, 0);
        t.due(2, "channel", 1, 1, 2, 0, 1);
        t.same(100, "actedAtLast", 2);
        t.same(100, "actedAtLast", 1);
        t.same(2, "fullAtLast", 1);
        t.same(1, "fullAtLast", 0);
    }

    // The longest way there is: one value goes round ten actors, against their numbers, 100 times.
    static void promise15ThousandActsOneBehindTheOther() {
        Trial t = yard(MAP, MAP, COPY, MAP, MAP, MAP, COPY, MAP, MAP, DELAY);
        t.due(0, "channel", 0, 0, 9, 0, 1);
        for (int n = 1; n < 10; n++) {
            t.due(n, "channel", n, 0, n - 1, 0, 1);
        }
        for (int n = 0; n < 10; n++) {
            t.same(100, "actedAtLast", n);
        }
        t.same(0, "fullAtLast", 0);
        t.refused("fullAtLast", 1);
        t.due(1000, "run", 2, 2000);
    }

    // "How often an actor will have acted": what it acted already counts.
    static void promise15ActedAlready() {
        Trial t = yard(SOURCE);
        tell(t, 0, 1, 2, 3);
        for (int k = 0; k < 3; k++) {
            t.same(3, "actedAtLast", 0);
            acts(t, 0, 1);
        }
        t.same(3, "actedAtLast", 0);
        tell(t, 0, 4);
        t.same(4, "actedAtLast", 0);
        t.due(3, "acted", 0);
    }

    // "NONE when there is none such": k from 0 to one less than will be full.
    static void promise16NoSuchPlace() {
        Trial t = new Trial();
        t.refused("fullAtLast", 0);
        t.refused("fullAtLast", -1);
        for (int n = 0; n < 10; n++) {
            t.due(n, "actor", DELAY, 1, 0);
            t.due(n, "channel", n, 0, n, 0, 1);
            t.same(n, "fullAtLast", n);
            t.refused("fullAtLast", n + 1);
            t.refused("fullAtLast", -1);
        }
        for (int k : FAR) {
            t.refused("fullAtLast", k);
        }
        t.same(0, "fullAtLast", 0);
    }

    // "that will be full": one value less than its room is not full, for each room.
    static void promise16OneLessThanFull() {
        for (int room = 1; room <= 8; room++) {
            Trial t = yard(SOURCE, SUM);
            t.due(0, "channel", 0, 0, 1, 1, room);
            tellMany(t, 0, 0, room - 1);
            t.refused("fullAtLast", 0);
            tell(t, 0, 9);
            t.same(0, "fullAtLast", 0);
            t.refused("fullAtLast", 1);
            tell(t, 0, 9);
            t.same(0, "fullAtLast", 0);
            t.due(0, "waits", 0);
            t.due(room, "actedAtLast", 0);
        }
    }

    // "The k-th channel, by numbers": channels that won't be full are passed over.
    static void promise16ByNumbers() {
        Trial t = yard(SOURCE, SOURCE, SOURCE, SOURCE, SOURCE, SUM, SUM, MERGE);
        t.due(0, "channel", 4, 0, 7, 1, 1);
        t.due(1, "channel", 0, 0, 5, 0, 2);
        t.due(2, "channel", 1, 0, 5, 1, 2);
        t.due(3, "channel", 2, 0, 6, 1, 3);
        t.due(4, "channel", 3, 0, 7, 0, 1);
        tellMany(t, 0, 0, 3);
        tellMany(t, 1, 0, 5);
        tellMany(t, 2, 0, 3);
        tellMany(t, 4, 0, 2);
        t.same(0, "fullAtLast", 0);
        t.same(2, "fullAtLast", 1);
        t.same(3, "fullAtLast", 2);
        t.refused("fullAtLast", 3);
    }

    // "that will be full": full now is not full at last, and the other way round.
    static void promise16FullNowIsNotFullAtLast() {
        Trial t = yard(SOURCE, DELAY, SUM);
        t.due(0, "channel", 0, 0, 1, 0, 1);
        t.due(1, "channel", 1, 0, 2, 0, 2);
        tell(t, 0, 5);
        acts(t, 0, 1);
        t.due(1, "waits", 0);
        t.due(0, "waits", 1);
        t.same(1, "fullAtLast", 0);
        t.refused("fullAtLast", 1);
    }

    // An object without channels, or with empty ones alone, has none that is full.
    static void promise16NoneIsFull() {
        Trial t = yard(SOURCE, SINK, DELAY);
        t.refused("fullAtLast", 0);
        t.due(0, "channel", 0, 0, 1, 0, 1);
        t.refused("fullAtLast", 0);
        tellMany(t, 0, 0, 20);
        t.refused("fullAtLast", 0);
    }

    // What is built or told behind an answer changes it; what is refused does not.
    static void promise13To16AnswersFollowChanges() {
        Trial t = yard(SOURCE, SINK, SUM);
        tell(t, 0, 5);
        t.due(0, "keptAtLast", 1);
        t.refused("channel", 0, 0, 1, 0, 9);
        t.due(0, "keptAtLast", 1);
        t.due(0, "channel", 0, 0, 1, 0, 1);
        t.due(1, "keptAtLast", 1);
        t.due(NO_VALUE, "atLast", 1, 1);
        t.refused("value", 1, 6);
        t.due(1, "keptAtLast", 1);
        tell(t, 0, 6);
        t.due(2, "keptAtLast", 1);
        t.due(6, "atLast", 1, 1);
        t.due(2, "actedAtLast", 0);
        t.due(NONE, "actedAtLast", 3);
        t.due(3, "actor", DELAY, 0, 0);
        t.due(1, "actedAtLast", 3);
        t.due(NONE, "fullAtLast", 0);
        t.due(1, "channel", 3, 0, 2, 1, 1);
        t.due(1, "fullAtLast", 0);
    }

    // "Whoever acts first, what is kept and how often each one acted is the same".
    static void promise13To16SameInAnyOrder() {
        for (int first = 0; first < 4; first++) {
            Trial t = leadingTwice(SPLIT, 2, 1, 3);
            tellMany(t, 0, 0, 9);
            for (int k = 0; k < 40; k++) {
                t.ask("act", (first + k * (first + 1)) % 4);
            }
            t.due(5, "keptAtLast", 2);
            t.due(4, "keptAtLast", 3);
            t.due(8, "atLast", 2, 4);
            t.due(7, "atLast", 3, 3);
            t.due(9, "actedAtLast", 1);
            settle(t);
            kept(t, 2, 0, 2, 4, 6, 8);
            kept(t, 3, 1, 3, 5, 7);
        }
    }

    // "Whoever acts first": in every order that there is, told from every yard on the way.
    static void promise13To16SameInEveryOrder() {
        everyOrder(gatedBySplit(1), new int[] {3, 2, 2, 1, 1, 1}, new int[] {0}, new int[] {0, 3});
        everyOrder(gatedBySplit(2), new int[] {4, 4, 4, 2, 2, 1}, new int[] {0, 3}, new int[] {3});
    }

    /**
     * A copy sends all to a gate's in 0 by channel 3, and to a split that sends every other value
     * to its in 1: with room for one value the copy will wait for the gate, and the gate for it.
     */
    private static Trial gatedBySplit(int room) {
        Trial t = yard(SOURCE, COPY, SPLIT, GATE, SINK, SINK);
        t.due(0, "channel", 0, 0, 1, 0, 1);
        t.due(1, "channel", 1, 0, 2, 0, 1);
        t.due(2, "channel", 2, 0, 3, 1, 1);
        t.due(3, "channel", 1, 1, 3, 0, room);
        t.due(4, "channel", 2, 1, 4, 0, 1);
        t.due(5, "channel", 3, 0, 5, 0, 1);
        tell(t, 0, 1, 0, 2, 3);
        return t;
    }

    private static void everyOrder(Trial start, int[] acted, int[] kept, int[] full) {
        Set<String> seen = new HashSet<>();
        ArrayDeque<Trial> open = new ArrayDeque<>();
        open.add(start);
        int ends = 0;
        while (!open.isEmpty()) {
            Trial t = open.remove();
            if (seen.add(actedSoFar(t, acted.length))) {
                dueAtLast(t, acted, kept, full);
                int before = open.size();
                for (int n = 0; n < acted.length; n++) {
                    if (t.ask("can", n) == 1) {
                        Trial next = t.again();
                        acts(next, n, 1);
                        open.add(next);
                    }
                }
                ends += open.size() == before ? 1 : 0;
            }
        }
        if (ends != 1 || !seen.contains(Arrays.toString(acted))) {
            Trial.fault(ends + " ends, or not the one that is due, among " + seen.size() + " yards");
        }
    }

    private static String actedSoFar(Trial t, int actors) {
        int[] acted = new int[actors];
        for (int n = 0; n < actors; n++) {
            acted[n] = (int) t.ask("acted", n);
        }
        return Arrays.toString(acted);
    }

    private static void dueAtLast(Trial t, int[] acted, int[] kept, int[] full) {
        for (int n = 0; n < acted.length; n++) {
            t.due(acted[n], "actedAtLast", n);
        }
        t.due(kept.length, "keptAtLast", 4);
        for (int k = 0; k < kept.length; k++) {
            t.due(kept[k], "atLast", 4, k);
        }
        t.due(1, "keptAtLast", 5);
        t.due(1, "atLast", 5, 0);
        for (int k = 0; k < full.length; k++) {
            t.due(full[k], "fullAtLast", k);
        }
        t.due(NONE, "fullAtLast", full.length);
    }

    // "All is SETTLED when no actor can act": then what is, and what will be, are the same.
    static void promise13To16WhenSettled() {
        Trial t = fedTwice(MERGE, 2, 3);
        tellMany(t, 0, 0, 7);
        tellMany(t, 1, 50, 3);
        settle(t);
        for (int n = 0; n < 4; n++) {
            t.due(t.ask("acted", n), "actedAtLast", n);
            t.cannot(n);
        }
        t.due(7, "keptAtLast", 3);
        for (int k = 0; k < 8; k++) {
            t.due(t.ask("at", 3, k), "atLast", 3, k);
        }
        t.due(0, "fullAtLast", 0);
        t.refused("fullAtLast", 1);
    }
}
