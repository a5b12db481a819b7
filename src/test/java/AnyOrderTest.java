import java.util.ArrayDeque;
import java.util.ArrayList;
import java.util.Arrays;
import java.util.List;
import java.util.Random;

/**
 * Random runs of calls, wild arguments among them, against a plain model of the document; and
 * the same yard settled in other orders. Nothing may be thrown.
 */
public final class AnyOrderTest {
    private static final int RUNS = 3000;
    private static final int CALLS = 512;
    private static int wrong = 0;

    public static void main(String[] args) {
        for (int run = 0; run < RUNS && wrong < 20; run++) {
            new Run(run).go();
        }
        System.out.println(wrong == 0 ? "the same in any order" : wrong + " answers are not as due");
        if (wrong != 0) {
            System.exit(1);
        }
    }

    /** One object, the model beside it, and the calls so far. */
    private static final class Run {
        private final int number;
        private final Random random;
        private final YardActors x = new YardActors();
        private Model model = new Model();

        Run(int number) {
            this.number = number;
            this.random = new Random(number);
        }

        void go() {
            int builds = 10 + random.nextInt(80);
            for (int call = 0; call < CALLS; call++) {
                try {
                    if (call < builds || random.nextInt(12) == 0) {
                        build();
                    } else {
                        use();
                    }
                } catch (RuntimeException e) {
                    wrong++;
                    System.out.println("run " + number + " threw " + e);
                    return;
                }
            }
        }

        private void build() {
            int what = random.nextInt(10);
            if (what < 3) {
                int kind = near(0, 8);
                int a = any();
                int b = any();
                due("actor(" + kind + ", " + a + ", " + b + ")", x.actor(kind, a, b), model.actor(kind, a, b));
            } else if (what < 6) {
                int source = near(0, 9);
                int v = any();
                due("value(" + source + ", " + v + ")", x.value(source, v) ? 1 : 0, model.value(source, v) ? 1 : 0);
            } else {
                int from = near(0, 9);
                int out = near(0, 1);
                int to = near(0, 9);
                int in = near(0, 1);
                int room = near(1, random.nextBoolean() ? 2 : 8);
                due("channel(" + from + ", " + out + ", " + to + ", " + in + ", " + room + ")",
                        x.channel(from, out, to, in, room), model.channel(from, out, to, in, room));
            }
        }

        private void use() {
            int n = near(0, 9);
            int c = near(0, 15);
            int k = near(0, random.nextBoolean() ? 3 : 60);
            switch (random.nextInt(13)) {
                case 0: due("can(" + n + ")", x.can(n) ? 1 : 0, model.can(n) ? 1 : 0); break;
                case 1: case 2: due("act(" + n + ")", x.act(n) ? 1 : 0, model.act(n) ? 1 : 0); break;
                case 3: run(); break;
                case 4: due("acted(" + n + ")", x.acted(n), model.acted(n)); break;
                case 5: due("kept(" + n + ")", x.kept(n), model.kept(n)); break;
                case 6: due("at(" + n + ", " + k + ")", x.at(n, k), model.at(n, k)); break;
                case 7: due("waits(" + c + ")", x.waits(c), model.waits(c)); break;
                case 8: due("waiting(" + c + ", " + k + ")", x.waiting(c, k), model.waiting(c, k)); break;
                case 9: due("keptAtLast(" + n + ")", x.keptAtLast(n), settled().kept(n)); break;
                case 10: due("atLast(" + n + ", " + k + ")", x.atLast(n, k), settled().at(n, k)); break;
                case 11: due("actedAtLast(" + n + ")", x.actedAtLast(n), settled().acted(n)); break;
                default: due("fullAtLast(" + k % 5 + ")", x.fullAtLast(k % 5), settled().full(k % 5)); break;
            }
        }

        private void run() {
            long seed = random.nextLong();
            int most = random.nextInt(6) == 0 ? near(0, 2000) : random.nextInt(12);
            due("run(" + seed + ", " + most + ")", x.run(seed, most), model.run(seed, most));
        }

        /** A copy of the model, settled in an order of its own each time. */
        private Model settled() {
            Model copy = model.copy();
            copy.settle(random);
            return copy;
        }

        private int near(int low, int high) {
            int[] wild = {low - 1, high + 1, Integer.MIN_VALUE, Integer.MAX_VALUE, random.nextInt()};
            return random.nextInt(25) == 0 ? wild[random.nextInt(5)] : low + random.nextInt(high - low + 1);
        }

        private int any() {
            return random.nextInt(3) == 0 ? random.nextInt() : random.nextInt(5) - 2;
        }

        private void due(String call, long got, long want) {
            if (got != want) {
                wrong++;
                System.out.println("run " + number + ": " + call + " answered " + got + ", due is " + want);
            }
        }
    }

    private static final class Pipe {
        final int from;
        final int out;
        final int to;
        final int in;
        final int room;
        final ArrayDeque<Integer> values = new ArrayDeque<>();

        Pipe(int from, int out, int to, int in, int room) {
            this.from = from;
            this.out = out;
            this.to = to;
            this.in = in;
            this.room = room;
        }
    }

    private static final class Player {
        final int kind;
        final int a;
        final int b;
        final ArrayDeque<Integer> left = new ArrayDeque<>();
        final List<Integer> kept = new ArrayList<>();
        int told = 0;
        int turn = 0;
        int acted = 0;

        Player(int kind, int a, int b) {
            this.kind = kind;
            this.a = a;
            this.b = b;
        }
    }

    /** The document in its own words: each act is a list of what it takes and gives. */
    private static final class Model {
        private static final List<Integer> INS = Arrays.asList(0, 1, 1, 2, 2, 1, 1, 2, 1);
        private static final List<Integer> OUTS = Arrays.asList(1, 1, 2, 1, 1, 1, 0, 1, 2);
        final List<Player> players = new ArrayList<>();
        final List<Pipe> pipes = new ArrayList<>();

        int actor(int kind, int a, int b) {
            if (players.size() == 10 || kind < 0 || kind > 8) {
                return -1;
            }
            players.add(new Player(kind, a, b));
            return players.size() - 1;
        }

        boolean value(int source, int v) {
            if (!is(source) || players.get(source).kind != 0 || players.get(source).told == 20) {
                return false;
            }
            players.get(source).told++;
            players.get(source).left.add(v);
            return true;
        }

        int channel(int from, int out, int to, int in, int room) {
            if (pipes.size() == 16 || !is(from) || !is(to) || room < 1 || room > 8) {
                return -1;
            }
            if (out < 0 || out >= OUTS.get(players.get(from).kind) || in < 0 || in >= INS.get(players.get(to).kind)) {
                return -1;
            }
            if (outPipe(from, out) != null || inPipe(to, in) != null) {
                return -1;
            }
            pipes.add(new Pipe(from, out, to, in, room));
            return pipes.size() - 1;
        }

        boolean is(int n) {
            return n >= 0 && n < players.size();
        }

        Pipe outPipe(int n, int out) {
            return pipes.stream().filter(p -> p.from == n && p.out == out).findFirst().orElse(null);
        }

        Pipe inPipe(int n, int in) {
            return pipes.stream().filter(p -> p.to == n && p.in == in).findFirst().orElse(null);
        }

        boolean room(int n, int out) {
            Pipe p = outPipe(n, out);
            return p == null || p.values.size() < p.room;
        }

        boolean has(int n, int in) {
            Pipe p = inPipe(n, in);
            return p != null && !p.values.isEmpty();
        }

        boolean can(int n) {
            if (!is(n) || players.get(n).acted >= 100) {
                return false;
            }
            Player p = players.get(n);
            switch (p.kind) {
                case 0: return !p.left.isEmpty() && room(n, 0);
                case 1: return has(n, 0) && room(n, 0);
                case 2: return has(n, 0) && room(n, p.turn);
                case 3: return has(n, p.turn) && room(n, 0);
                case 4: return has(n, 0) && has(n, 1) && room(n, 0);
                case 5: return p.acted == 0 ? room(n, 0) : has(n, 0) && room(n, 0);
                case 6: return has(n, 0) && p.kept.size() < 60;
                case 7: return has(n, 0) && has(n, 1) && (inPipe(n, 0).values.peek() == 0 || room(n, 0));
                default: return has(n, 0) && room(n, 0) && room(n, 1);
            }
        }

        boolean act(int n) {
            if (!can(n)) {
                return false;
            }
            Player p = players.get(n);
            switch (p.kind) {
                case 0: give(n, 0, p.left.remove()); break;
                case 1: give(n, 0, take(n, 0) * p.a + p.b); break;
                case 2: give(n, p.turn, take(n, 0)); break;
                case 3: give(n, 0, take(n, p.turn)); break;
                case 4: give(n, 0, take(n, 0) + take(n, 1)); break;
                case 5: give(n, 0, p.acted == 0 ? p.a : take(n, 0)); break;
                case 6: p.kept.add(take(n, 0)); break;
                case 7: gate(n, take(n, 0), take(n, 1)); break;
                default: both(n, take(n, 0)); break;
            }
            p.turn = 1 - p.turn;
            p.acted++;
            return true;
        }

        int take(int n, int in) {
            return inPipe(n, in).values.remove();
        }

        void give(int n, int out, int v) {
            Pipe p = outPipe(n, out);
            if (p != null) {
                p.values.add(v);
            }
        }

        void gate(int n, int key, int v) {
            if (key != 0) {
                give(n, 0, v);
            }
        }

        void both(int n, int v) {
            give(n, 0, v);
            give(n, 1, v);
        }

        List<Integer> able() {
            List<Integer> able = new ArrayList<>();
            for (int n = 0; n < players.size(); n++) {
                if (can(n)) {
                    able.add(n);
                }
            }
            return able;
        }

        int run(long seed, int most) {
            if (most < 0 || most > 2000) {
                return -1;
            }
            long x = seed;
            for (int done = 0; done < most; done++) {
                List<Integer> able = able();
                if (able.isEmpty()) {
                    return done;
                }
                x = x * 6364136223846793005L + 1442695040888963407L;
                act(able.get((int) ((x >>> 33) % able.size())));
            }
            return most;
        }

        void settle(Random random) {
            List<Integer> able = able();
            while (!able.isEmpty()) {
                act(able.get(random.nextInt(able.size())));
                able = able();
            }
        }

        int acted(int n) {
            return is(n) ? players.get(n).acted : -1;
        }

        int kept(int n) {
            return is(n) && players.get(n).kind == 6 ? players.get(n).kept.size() : -1;
        }

        long at(int n, int k) {
            return k >= 0 && k < kept(n) ? players.get(n).kept.get(k) : Long.MIN_VALUE;
        }

        int waits(int c) {
            return c >= 0 && c < pipes.size() ? pipes.get(c).values.size() : -1;
        }

        long waiting(int c, int k) {
            return k >= 0 && k < waits(c) ? new ArrayList<>(pipes.get(c).values).get(k) : Long.MIN_VALUE;
        }

        int full(int k) {
            List<Integer> full = new ArrayList<>();
            for (int c = 0; c < pipes.size(); c++) {
                if (pipes.get(c).values.size() == pipes.get(c).room) {
                    full.add(c);
                }
            }
            return k >= 0 && k < full.size() ? full.get(k) : -1;
        }

        Model copy() {
            Model m = new Model();
            for (Player p : players) {
                Player q = new Player(p.kind, p.a, p.b);
                q.left.addAll(p.left);
                q.kept.addAll(p.kept);
                q.told = p.told;
                q.turn = p.turn;
                q.acted = p.acted;
                m.players.add(q);
            }
            for (Pipe p : pipes) {
                Pipe q = new Pipe(p.from, p.out, p.to, p.in, p.room);
                q.values.addAll(p.values);
                m.pipes.add(q);
            }
            return m;
        }
    }
}
