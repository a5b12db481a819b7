import java.lang.reflect.InvocationTargetException;
import java.lang.reflect.Method;
import java.util.ArrayList;
import java.util.Arrays;
import java.util.HashMap;
import java.util.List;
import java.util.Map;
import java.util.Set;

/**
 * A yard under trial. The calls that may change it are recorded, so that they can be made again on
 * a new object: the document speaks of 512 calls on an object, and no test may lean on more.
 * Calls are told by name and arguments; a boolean answer counts 1 or 0.
 */
final class Trial {
    private static final int MOST_CALLS = 512;
    private static final Map<String, Method> FACE = face();
    private static final Set<String> CHANGING = Set.of("actor", "value", "channel", "act", "run");

    private static String test = "";
    private static int faults = 0;

    private final List<Call> past = new ArrayList<>();
    private YardActors live = new YardActors();
    private int used = 0;
    // What can be seen of the yard, now and later; null when it is not known yet.
    private List<String> view = null;

    /** From here on faults are those of this test. */
    static void begin(String name) {
        test = name;
    }

    static int faults() {
        return faults;
    }

    static void fault(String what) {
        faults++;
        System.out.println(test + ": " + what);
    }

    /** A new trial with the same calls behind it. */
    Trial again() {
        Trial other = new Trial();
        for (Call call : past) {
            other.make(call);
        }
        return other;
    }

    /** The call's answer has to be this one. */
    void due(long answer, String name, long... args) {
        Call call = new Call(name, args);
        long got = make(call);
        if (got != answer) {
            fault(call + " answered " + got + ", due is " + answer);
        }
    }

    void yes(String name, long... args) {
        due(1, name, args);
    }

    long ask(String name, long... args) {
        return make(new Call(name, args));
    }

    /** The call answers NONE, false or Long.MIN_VALUE, and nothing is other than before. */
    void refused(String name, long... args) {
        Call call = new Call(name, args);
        unchangedBy(call, call.refusal());
    }

    /** The call gives this answer, and nothing is other than before. */
    void same(long answer, String name, long... args) {
        unchangedBy(new Call(name, args), answer);
    }

    /** The actor can act: it is told so, and it would. */
    void can(int actor) {
        same(1, "can", actor);
        Trial other = again();
        other.yes("act", actor);
    }

    /** The actor can't act, and asking it to changes nothing. */
    void cannot(int actor) {
        refused("can", actor);
        refused("act", actor);
    }

    /** This yard and the other one can't be told apart, neither now nor later. */
    void sameAs(Trial other) {
        compare("the other yard", view(), other.view());
    }

    private void unchangedBy(Call call, long answer) {
        List<String> before = view();
        List<Call> longer = new ArrayList<>(past);
        longer.add(call);
        long got = call.on(new Replay(past).yard());
        if (got != answer) {
            fault(call + " answered " + got + ", due is " + answer);
        }
        compare(call.toString(), before, viewOf(longer));
    }

    private static void compare(String cause, List<String> before, List<String> after) {
        for (int i = 0; i < Math.min(before.size(), after.size()); i++) {
            if (!before.get(i).equals(after.get(i))) {
                fault(cause + " changed " + before.get(i) + " to " + after.get(i));
                return;
            }
        }
        if (before.size() != after.size()) {
            fault(cause + " changed how much there is to see");
        }
    }

    private long make(Call call) {
        if (used == MOST_CALLS) {
            Replay replay = new Replay(past);
            live = replay.yard();
            used = past.size();
        }
        if (CHANGING.contains(call.name)) {
            past.add(call);
            view = null;
        }
        used++;
        return call.on(live);
    }

    private List<String> view() {
        if (view == null) {
            view = viewOf(past);
        }
        return view;
    }

    /** All answers that the yard gives now, and those behind some calls more. */
    private static List<String> viewOf(List<Call> past) {
        List<String> seen = new ArrayList<>();
        int actors = lookAll(past, seen);
        makeFurther(past, moreActors(), seen);
        makeFurther(past, singleSteps(), seen);
        for (int from = 0; from < actors; from++) {
            makeFurther(past, channelsFrom(from, actors), seen);
        }
        lookAll(makeFurther(past, valuesAndRun(actors), seen), seen);
        return seen;
    }

    private static List<Call> moreActors() {
        List<Call> further = new ArrayList<>();
        for (int k = 0; k < 11; k++) {
            further.add(new Call("actor", 8 - k % 9, 1, 1));
        }
        return further;
    }

    private static List<Call> singleSteps() {
        List<Call> further = new ArrayList<>();
        for (int k = 0; k < 12; k++) {
            further.add(new Call("run", 1000003L * k, 1));
        }
        for (int n = 0; n < 10; n++) {
            further.add(new Call("acted", n));
        }
        return further;
    }

    private static List<Call> channelsFrom(int from, int actors) {
        List<Call> further = new ArrayList<>();
        for (int to = 0; to < actors; to++) {
            for (int ends = 0; ends < 4; ends++) {
                further.add(new Call("channel", from, ends & 1, to, ends >> 1, 1));
            }
        }
        return further;
    }

    private static List<Call> valuesAndRun(int actors) {
        List<Call> further = new ArrayList<>();
        for (int n = 0; n < actors; n++) {
            for (int k = 0; k < 21; k++) {
                further.add(new Call("value", n, 1000 * n + k));
            }
        }
        further.add(new Call("run", 77, 2000));
        return further;
    }

    private static List<Call> makeFurther(List<Call> past, List<Call> further, List<String> seen) {
        Replay replay = new Replay(past);
        for (Call call : further) {
            seen.add(call + " = " + replay.make(call));
        }
        List<Call> longer = new ArrayList<>(past);
        longer.addAll(further);
        return longer;
    }

    /** Answers how many actors there are. */
    private static int lookAll(List<Call> past, List<String> seen) {
        Replay replay = new Replay(past);
        int actors = 0;
        for (int n = -1; n <= 10; n++) {
            actors += replay.look(seen, "acted", n) >= 0 ? 1 : 0;
            replay.look(seen, "can", n);
            replay.look(seen, "actedAtLast", n);
            long kept = replay.look(seen, "kept", n);
            for (int k = 0; k <= kept; k++) {
                replay.look(seen, "at", n, k);
            }
            long keptAtLast = replay.look(seen, "keptAtLast", n);
            for (int k = 0; k <= keptAtLast; k++) {
                replay.look(seen, "atLast", n, k);
            }
        }
        for (int c = -1; c <= 16; c++) {
            long waits = replay.look(seen, "waits", c);
            for (int k = 0; k <= waits; k++) {
                replay.look(seen, "waiting", c, k);
            }
            replay.look(seen, "fullAtLast", c);
        }
        return actors;
    }

    private static Map<String, Method> face() {
        Map<String, Method> face = new HashMap<>();
        for (Method method : YardActors.class.getMethods()) {
            if (method.getDeclaringClass() == YardActors.class) {
                face.put(method.getName(), method);
            }
        }
        return face;
    }

    /** A new object with the past calls made on it. */
    private static final class Replay {
        private final List<Call> past;
        private YardActors yard;
        private int used;

        Replay(List<Call> past) {
            this.past = past;
            renew();
        }

        YardActors yard() {
            return yard;
        }

        /** For calls that change the yard: a test that makes too many of them is wrong itself. */
        long make(Call call) {
            if (used == MOST_CALLS) {
                throw new IllegalStateException("the test makes more than 512 calls");
            }
            used++;
            return call.on(yard);
        }

        long look(List<String> seen, String name, long... args) {
            if (used == MOST_CALLS) {
                renew();
            }
            Call call = new Call(name, args);
            long answer = make(call);
            seen.add(call + " = " + answer);
            return answer;
        }

        private void renew() {
            yard = new YardActors();
            used = 0;
            for (Call call : past) {
                make(call);
            }
        }
    }

    private static final class Call {
        private final String name;
        private final long[] args;

        Call(String name, long... args) {
            this.name = name;
            this.args = args;
        }

        long refusal() {
            Class<?> type = FACE.get(name).getReturnType();
            return type == boolean.class ? 0L : type == int.class ? -1L : Long.MIN_VALUE;
        }

        long on(YardActors yard) {
            Method method = FACE.get(name);
            Object[] given = new Object[args.length];
            for (int i = 0; i < args.length; i++) {
                given[i] = fit(args[i], method.getParameterTypes()[i]);
            }
            try {
                Object answer = method.invoke(yard, given);
                return answer instanceof Boolean b ? (b ? 1L : 0L) : ((Number) answer).longValue();
            } catch (InvocationTargetException e) {
                throw new IllegalStateException(this + " threw " + e.getCause(), e);
            } catch (IllegalAccessException e) {
                throw new IllegalStateException(e);
            }
        }

        private static Object fit(long arg, Class<?> type) {
            if (type == long.class) {
                return arg;
            }
            return Math.toIntExact(arg);
        }

        @Override
        public String toString() {
            String list = Arrays.toString(args);
            return name + "(" + list.substring(1, list.length() - 1) + ")";
        }
    }
}
