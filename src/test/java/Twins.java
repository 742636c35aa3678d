import java.util.ArrayList;
import java.util.List;

/**
 * Calls that must change nothing: the ring behind such a call is held, in all that it tells and in what
 * becomes of it, against a twin that was made alike and was spared the call.
 */
final class Twins {
    static final int LEAST = Integer.MIN_VALUE;
    static final int GREATEST = Integer.MAX_VALUE;

    interface Ring {
        TrolleyGang make();
    }

    interface Call {
        void on(TrolleyGang x);
    }

    private Twins() { }

    static void refusedIndex(String call, Ring ring, Call made) {
        refused(IndexOutOfBoundsException.class, call, ring, made);
    }

    static void refusedArgument(String call, Ring ring, Call made) {
        refused(IllegalArgumentException.class, call, ring, made);
    }

    static void refusedState(String call, Ring ring, Call made) {
        refused(IllegalStateException.class, call, ring, made);
    }

    /** The call is taken, and changes nothing. */
    static void changesNothing(String call, Ring ring, Call made) {
        refused(null, call, ring, made);
    }

    private static void refused(Class<? extends RuntimeException> due, String call, Ring ring, Call made) {
        TrolleyGang x = ring.make();
        Class<?> thrown = null;
        try {
            made.on(x);
        } catch (RuntimeException e) {
            thrown = e.getClass();
        }
        Check.holds(call + " threw " + thrown + ", due is " + due, thrown == due);
        List<Number> got = told(x);
        List<Number> want = told(ring.make());
        Check.holds(call + " changed something: " + got + ", due is " + want, got.equals(want));
    }

    /** All that a ring tells, then what becomes of it in some hours; in some 240 calls. */
    private static List<Number> told(TrolleyGang x) {
        List<Number> all = new ArrayList<>();
        for (int what = 0; what < 9; what++) {
            all.add(x.count(what));
        }
        for (int what = 0; what < 7; what++) {
            all.add(x.gang(what));
        }
        for (int span = 0; span < 24; span++) {
            for (int what = 0; what < 5; what++) {
                all.add(x.span(span, what));
            }
        }
        for (int number = 0; number < x.count(3); number++) {
            for (int what = 0; what < 7; what++) {
                all.add(x.told(number, what));
            }
        }
        all.add(x.mean());
        all.add(x.digest());
        addTables(x, all);
        all.add(x.pass(2));
        all.add(x.digest());
        all.add(x.pass(40));
        all.add(x.digest());
        return all;
    }

    /** A table is read by setting each row to what it is: the first call tells it, the second puts it back. */
    private static void addTables(TrolleyGang x, List<Number> all) {
        for (int hour = 0; hour < 8; hour++) {
            int cold = x.setCold(hour, 0);
            x.setCold(hour, cold);
            all.add(cold);
        }
        for (int hour = 0; hour < 12; hour++) {
            int span = x.setSwan(hour, -1);
            x.setSwan(hour, span);
            all.add(span);
        }
        for (boolean isNight : new boolean[] {false, true}) {
            int coins = x.setFare(isNight, 0);
            x.setFare(isNight, coins);
            all.add(coins);
        }
    }
}
