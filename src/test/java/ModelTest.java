import java.util.Random;

/** Long mixed runs of calls, 512 on each object, every answer held against Model; the same runs each time. */
final class ModelTest {
    private static final int RUNS = 400;
    // the digest at the end of a run is the 512th call
    private static final int CALLS = 511;

    interface Answer {
        String get();
    }

    private static final int[] fallsSeen = new int[3];
    private static int advised = 0;

    public static void main(String[] args) {
        for (int run = 0; run < RUNS; run++) {
            runOf(run);
        }
        Check.holds("some spans are down, some fall later, some do not",
                fallsSeen[0] > 100 && fallsSeen[1] > 100 && fallsSeen[2] > 100);
        Check.holds("some advice is given", advised > 100);
        Check.end("ModelTest");
    }

    private static void runOf(int run) {
        Random random = new Random(run);
        TrolleyGang x = new TrolleyGang();
        Model m = new Model();
        // a run with long passes wears all through; one with short ones sees more of each state
        int longest = run % 4 == 0 ? 72 : run % 4 == 1 ? 12 : 4;
        for (int call = 0; call < CALLS; call++) {
            long seed = random.nextLong();
            String got = answer(() -> call(x, null, new Random(seed), longest));
            String want = answer(() -> call(null, m, new Random(seed), longest));
            if (!got.equals(want)) {
                Check.holds("run " + run + " call " + call + " answered " + got + ", due is " + want, false);
                return;
            }
        }
        Check.due("run " + run + " digest()", x.digest(), m.digest());
    }

    private static String answer(Answer call) {
        try {
            return call.get();
        } catch (RuntimeException e) {
            return "throws " + e.getClass().getSimpleName();
        }
    }

    /** A number of the range, seldom one beside it. */
    private static int near(Random random, int least, int most) {
        int kind = random.nextInt(40);
        if (kind == 0) {
            return least - 1;
        }
        if (kind == 1) {
            return most + 1;
        }
        return least + random.nextInt(most - least + 1);
    }

    /** The same call, of the class if there is an object of it, else of the model. */
    private static String call(TrolleyGang x, Model m, Random random, int longest) {
        int kind = random.nextInt(40);
        int span = near(random, 0, 23);
        int small = near(random, 0, 8);
        boolean flag = random.nextBoolean();
        int hours = near(random, 1, longest);
        switch (kind) {
            case 0: case 1: {
                int cold = near(random, 0, 3);
                return "setCold " + (m == null ? x.setCold(small, cold) : m.setCold(small, cold));
            }
            case 2: case 3: {
                int hour = near(random, 0, 11);
                int at = near(random, -1, 23);
                return "setSwan " + (m == null ? x.setSwan(hour, at) : m.setSwan(hour, at));
            }
            case 4: {
                int coins = near(random, 0, 9);
                return "setFare " + (m == null ? x.setFare(flag, coins) : m.setFare(flag, coins));
            }
            case 5: case 6:
                return "bus " + (m == null ? x.bus(span, flag) : m.bus(span, flag));
            case 7: case 8: {
                int from = near(random, 0, 5);
                int to = near(random, 0, 5);
                return "fit " + (m == null ? x.fit(from, to) : m.fit(from, to));
            }
            case 9: {
                int bus = near(random, 0, 5);
                return "park " + (m == null ? x.park(bus) : m.park(bus));
            }
            case 10: case 11: case 12: {
                int bus = near(random, 0, 5);
                int what = near(random, 0, 6);
                return "told " + (m == null ? x.told(bus, what) : m.told(bus, what));
            }
            case 13: case 14: {
                int what = near(random, 0, 4);
                return "span " + (m == null ? x.span(span, what) : m.span(span, what));
            }
            case 15: case 16: case 17: case 18: case 19:
                return "order " + (m == null ? x.order(span) : m.order(span));
            case 20:
                return "cancel " + (m == null ? x.cancel(span) : m.cancel(span));
            case 21: case 22: case 23: {
                int what = near(random, 0, 6);
                return "gang " + (m == null ? x.gang(what) : m.gang(what));
            }
            case 24: case 25:
                return "count " + (m == null ? x.count(small) : m.count(small));
            case 26: case 27: {
                int falls = m == null ? x.falls(span) : m.falls(span);
                fallsSeen[falls == 0 ? 0 : falls > 0 ? 1 : 2]++;
                return "falls " + falls;
            }
            case 28: case 29: {
                int many = near(random, 1, 72);
                return "foresee " + (m == null ? x.foresee(many, small) : m.foresee(many, small));
            }
            case 30: {
                int many = near(random, 1, 48);
                int advice = m == null ? x.advise(many) : m.advise(many);
                advised += advice >= 0 ? 1 : 0;
                return "advise " + advice;
            }
            case 31:
                return "mean " + (m == null ? x.mean() : m.mean());
            case 32: case 33: case 34:
                return "digest " + (m == null ? x.digest() : m.digest());
            default:
                return "pass " + (m == null ? x.pass(hours) : m.pass(hours));
        }
    }
}
