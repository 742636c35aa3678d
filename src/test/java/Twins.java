import java.util.LinkedHashMap;
import java.util.Map;
import java.util.Set;
import java.util.TreeSet;

/**
 * What a call changes: the ring behind the call is held, in all that it tells, against a twin that was made
 * alike and was spared the call.
 */
final class Twins {
    static final int LEAST = Integer.MIN_VALUE;
    static final int GREATEST = Integer.MAX_VALUE;

    interface Ring {
        TrolleyGang make();
    }

    interface Call {
        void on(TrolleyGang x);
    }

    private Twins() { }

    static void refusedIndex(String call, Ring ring, Call made) {
        refused(IndexOutOfBoundsException.class, call, ring, made);
    }

    static void refusedArgument(String call, Ring ring, Call made) {
        refused(IllegalArgumentException.class, call, ring, made);
    }

    static void refusedState(String call, Ring ring, Call made) {
        refused(IllegalStateException.class, call, ring, made);
    }

    /** The call is taken, and changes nothing. */
    static void changesNothing(String call, Ring ring, Call made) {
        refused(null, call, ring, made);
    }

    /** The call is taken, and just this is told otherwise behind it, each as in "gang(2) = 6". */
    static void changesOnly(String call, Ring ring, Call made, String... due) {
        TrolleyGang x = ring.make();
        made.on(x);
        Set<String> got = changes(told(ring.make()), told(x));
        Set<String> want = new TreeSet<>(Set.of(due));
        Check.holds(call + " changed " + got + ", due is " + want, got.equals(want));
    }

    private static void refused(Class<? extends RuntimeException> due, String call, Ring ring, Call made) {
        TrolleyGang x = ring.make();
        Class<?> thrown = null;
        try {
            made.on(x);
        } catch (RuntimeException e) {
            thrown = e.getClass();
        }
        Check.holds(call + " threw " + thrown + ", due is " + due, thrown == due);
        Set<String> changes = changes(toldAndToCome(ring.make()), toldAndToCome(x));
        Check.holds(call + " changed " + changes + ", due is nothing", changes.isEmpty());
    }

    private static Set<String> changes(Map<String, Number> before, Map<String, Number> behind) {
        Set<String> changes = new TreeSet<>();
        for (Map.Entry<String, Number> told : behind.entrySet()) {
            if (!told.getValue().equals(before.get(told.getKey()))) {
                changes.add(told.getKey() + " = " + told.getValue());
            }
        }
        for (String gone : before.keySet()) {
            if (!behind.containsKey(gone)) {
                changes.add(gone + " is gone");
            }
        }
        return changes;
    }

    /** What told() answers, the sums, and what becomes of the ring in some hours; in some 240 calls. */
    private static Map<String, Number> toldAndToCome(TrolleyGang x) {
        Map<String, Number> all = told(x);
        all.put("mean()", x.mean());
        all.put("digest()", x.digest());
        all.put("pass(2)", x.pass(2));
        all.put("digest() two hours later", x.digest());
        all.put("pass(40)", x.pass(40));
        all.put("digest() 42 hours later", x.digest());
        return all;
    }

    /** All that a ring tells, without sums. */
    private static Map<String, Number> told(TrolleyGang x) {
        Map<String, Number> all = new LinkedHashMap<>();
        for (int what = 0; what < 9; what++) {
            all.put("count(" + what + ")", x.count(what));
        }
        for (int what = 0; what < 7; what++) {
            all.put("gang(" + what + ")", x.gang(what));
        }
        for (int span = 0; span < 24; span++) {
            for (int what = 0; what < 5; what++) {
                all.put("span(" + span + ", " + what + ")", x.span(span, what));
            }
        }
        int buses = x.count(3);
        for (int number = 0; number < buses; number++) {
            for (int what = 0; what < 7; what++) {
                all.put("told(" + number + ", " + what + ")", x.told(number, what));
            }
        }
        putTables(x, all);
        return all;
    }

    /** A table is read by setting each row to what it is: the first call tells it, the second puts it back. */
    private static void putTables(TrolleyGang x, Map<String, Number> all) {
        for (int hour = 0; hour < 8; hour++) {
            int cold = x.setCold(hour, 0);
            x.setCold(hour, cold);
            all.put("cold(" + hour + ")", cold);
        }
        for (int hour = 0; hour < 12; hour++) {
            int span = x.setSwan(hour, -1);
            x.setSwan(hour, span);
            all.put("swan(" + hour + ")", span);
        }
        for (boolean isNight : new boolean[] {false, true}) {
            int coins = x.setFare(isNight, 0);
            x.setFare(isNight, coins);
            all.put(isNight ? "fare by night" : "fare by day", coins);
        }
    }
}
