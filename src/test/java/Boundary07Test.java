import java.math.BigInteger;
import java.util.ArrayList;
import java.util.List;

/** The boundary cases of promise 7: run. */
public final class Boundary07Test extends Boundaries {
    private static final BigInteger WORD = BigInteger.ONE.shiftLeft(64);
    private static final BigInteger FACTOR = new BigInteger("6364136223846793005");
    private static final BigInteger ADDEND = new BigInteger("1442695040888963407");
    private static final long[] SEEDS = {
        0L, 1L, -1L, Long.MIN_VALUE, Long.MAX_VALUE, Long.MIN_VALUE + 1, 1L << 33, (1L << 33) - 1,
        1L << 32, -(1L << 33), 6364136223846793005L, -1442695040888963407L, 123456789L};

    public static void main(String[] args) {
        runAll(Boundary07Test.class);
    }

    // "so many (0 .. 2000)": 0 is such a number, and nobody acts.
    static void promise07MostZero() {
        Trial t = sources(3, 2);
        t.same(0, "run", 1, 0);
        t.same(0, "run", Long.MIN_VALUE, 0);
        settle(t);
        t.same(0, "run", 1, 0);
    }

    // "NONE when the number is not such": below 0, and nobody acts.
    static void promise07MostBelowZero() {
        Trial t = sources(3, 2);
        t.refused("run", 1, -1);
        t.refused("run", 1, -2);
        t.refused("run", 1, -2000);
        t.refused("run", 1, MIN);
        t.refused("run", Long.MIN_VALUE, -1);
    }

    // "NONE when the number is not such": 2000 is the last that is, 2001 the first that is not.
    static void promise07MostAbove2000() {
        Trial t = sources(3, 2);
        t.refused("run", 1, 2001);
        t.refused("run", 1, 2002);
        t.refused("run", 1, 65536 + 5);
        t.refused("run", 1, MAX);
        t.refused("run", Long.MAX_VALUE, 2001);
        t.due(6, "run", 1, 2000);
    }

    // "NONE when the number is not such": also when none can act anyway.
    static void promise07NoSuchNumberWhenSettled() {
        Trial t = sources(2, 1);
        settle(t);
        t.refused("run", 1, -1);
        t.refused("run", 1, 2001);
        t.same(0, "run", 1, 2000);
        Trial empty = new Trial();
        empty.refused("run", 1, -1);
        empty.refused("run", 1, 2001);
        empty.same(0, "run", 1, 2000);
    }

    // "Up to so many": one less than can act, just as many, one more.
    static void promise07UpToSoMany() {
        for (int most = 1; most <= 8; most++) {
            Trial t = sources(3, 2);
            int due = Math.min(most, 6);
            t.due(due, "run", 9, most);
            long acted = t.ask("acted", 0) + t.ask("acted", 1) + t.ask("acted", 2);
            t.due(6 - acted, "run", 9, 2000);
            t.same(0, "run", 9, 2000);
        }
    }

    /** So many sources with so many values each, and no channel: all of them can act. */
    private static Trial sources(int many, int values) {
        Trial t = new Trial();
        for (int n = 0; n < many; n++) {
            t.due(n, "actor", SOURCE, 0, 0);
            tellMany(t, n, 10 * n, values);
        }
        return t;
    }

    // "until none can": each of ten actors acted 100 times, 1000 acts are the most there can be.
    static void promise07ThousandActs() {
        Trial t = new Trial();
        for (int n = 0; n < 10; n++) {
            t.due(n, "actor", DELAY, n, 0);
            t.due(n, "channel", n, 0, n, 0, 2);
        }
        Trial other = t.again();
        t.due(1000, "run", 4, 2000);
        t.same(0, "run", 4, 2000);
        other.due(999, "run", 4, 999);
        other.due(1, "run", 4, 1);
        other.same(0, "run", 4, 1);
    }

    // "until none can": they stop because there is no room, and go on when there is again.
    static void promise07StopsWithoutRoom() {
        Trial t = yard(SOURCE, MERGE, SOURCE);
        t.due(0, "channel", 0, 0, 1, 0, 3);
        t.due(1, "channel", 2, 0, 1, 1, 1);
        tellMany(t, 0, 0, 20);
        t.due(5, "run", 1, 2000);
        t.due(3, "waits", 0);
        t.same(0, "run", 2, 2000);
        tell(t, 2, 5);
        t.due(4, "run", 3, 2000);
        t.due(3, "waits", 0);
    }

    // "of those that can then act": each time anew, so that one act lets others act.
    static void promise07ThoseThatCanThen() {
        Trial t = fed(MAP, 1, 0, 1, 1);
        tell(t, 0, 5);
        for (int n = 0; n < 3; n++) {
            t.due(1, "run", n, 1);
            t.due(1, "acted", n);
        }
        Trial other = fed(MAP, 1, 0, 1, 1);
        tell(other, 0, 5);
        other.due(3, "run", 0, 3);
        kept(other, 2, 5);
    }

    // "x, at first the seed, becomes ..": before the first draw, and in each run from the seed.
    static void promise07EachRunBeginsWithItsSeed() {
        for (long seed : SEEDS) {
            Trial once = sources(7, 3);
            int first = drawn(step(BigInteger.valueOf(seed)), 7);
            once.due(1, "run", seed, 1);
            once.due(1, "acted", first);
            once.due(1, "run", seed, 1);
            once.due(2, "acted", first);
        }
    }

    // "the rest of x >>> 33 by n": for every n from 10 down to 1, and any seed.
    static void promise07DrawsAmongTenDownToOne() {
        for (long seed : SEEDS) {
            List<Integer> left = new ArrayList<>();
            for (int n = 0; n < 10; n++) {
                left.add(n);
            }
            List<Integer> order = new ArrayList<>();
            BigInteger x = BigInteger.valueOf(seed);
            while (!left.isEmpty()) {
                x = step(x);
                order.add(left.remove(drawn(x, left.size())));
            }
            checkOrder(seed, order);
        }
    }

    /** After so many acts just the first so many of the order have acted. */
    private static void checkOrder(long seed, List<Integer> order) {
        for (int most = 0; most <= order.size(); most++) {
            Trial t = sources(order.size(), 1);
            t.due(most, "run", seed, most);
            for (int k = 0; k < order.size(); k++) {
                t.due(k < most ? 1 : 0, "acted", order.get(k));
            }
        }
    }

    // "by their numbers": actors that can't act are not counted among the n.
    static void promise07ThoseThatCannotAreNotDrawn() {
        for (long seed : SEEDS) {
            Trial t = yard(MAP, SOURCE, SINK, SOURCE, GATE, SOURCE, COPY);
            tell(t, 1, 1);
            tell(t, 3, 1);
            tell(t, 5, 1);
            int first = drawn(step(BigInteger.valueOf(seed)), 3);
            t.due(1, "run", seed, 1);
            for (int k = 0; k < 3; k++) {
                t.due(k == first ? 1 : 0, "acted", 2 * k + 1);
            }
        }
    }

    // "A call that is refused changes nothing": a later run draws as if it had not been.
    static void promise07RefusedDrawsNothing() {
        Trial plain = sources(5, 4);
        Trial t = sources(5, 4);
        t.due(NONE, "run", 3, 2001);
        t.due(NONE, "run", 3, -1);
        t.due(0, "run", 3, 0);
        t.due(3, "run", 8, 3);
        plain.due(3, "run", 8, 3);
        t.sameAs(plain);
    }

    // "the seed": the same one from the same yard brings about the same.
    static void promise07SameSeedSameEnd() {
        for (long seed : SEEDS) {
            Trial one = sources(6, 3);
            Trial other = sources(6, 3);
            one.due(7, "run", seed, 7);
            other.due(7, "run", seed, 7);
            one.sameAs(other);
        }
    }

    private static BigInteger step(BigInteger x) {
        return x.multiply(FACTOR).add(ADDEND).mod(WORD);
    }

    private static int drawn(BigInteger x, int n) {
        return x.shiftRight(33).mod(BigInteger.valueOf(n)).intValue();
    }
}
