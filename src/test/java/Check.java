/** What all tests share: each call's answer against the one that is due. */
final class Check {
    private static int right = 0;
    private static int wrong = 0;

    interface Call {
        void make();
    }

    private Check() { }

    static void due(String call, long got, long want) {
        count(got == want, call + " answered " + got + ", due is " + want);
    }

    static void due(String call, boolean got, boolean want) {
        count(got == want, call + " answered " + got + ", due is " + want);
    }

    static void dueMean(String call, double got, double want) {
        count(got == want, call + " answered " + got + ", due is " + want);
    }

    static void holds(String what, boolean does) {
        count(does, what);
    }

    /** The call throws just this class of exception, and the object is as it was. */
    static void refused(TrolleyGang x, String call, Class<? extends RuntimeException> due, Call made) {
        long before = x.digest();
        Class<?> thrown = null;
        try {
            made.make();
        } catch (RuntimeException e) {
            thrown = e.getClass();
        }
        count(thrown == due, call + " threw " + thrown + ", due is " + due);
        count(x.digest() == before, call + " changed something");
    }

    static void refusedIndex(TrolleyGang x, String call, Call made) {
        refused(x, call, IndexOutOfBoundsException.class, made);
    }

    static void refusedArgument(TrolleyGang x, String call, Call made) {
        refused(x, call, IllegalArgumentException.class, made);
    }

    static void refusedState(TrolleyGang x, String call, Call made) {
        refused(x, call, IllegalStateException.class, made);
    }

    /** The call leaves the object as it was. */
    static void changesNothing(TrolleyGang x, String call, Call made) {
        long before = x.digest();
        made.make();
        count(x.digest() == before, call + " changed something");
    }

    static void end(String test) {
        System.out.println(test + ": " + right + " checks right, " + wrong + " wrong");
        if (wrong != 0 || right == 0) {
            System.exit(1);
        }
    }

    private static void count(boolean isRight, String otherwise) {
        if (isRight) {
            right++;
        } else {
            wrong++;
            System.out.println("wrong: " + otherwise);
        }
    }
}
