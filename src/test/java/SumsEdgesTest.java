import java.math.BigInteger;
import java.util.ArrayList;
import java.util.List;

/** Promises 18 and 19, each sentence that names a boundary case. */
final class SumsEdgesTest {
    public static void main(String[] args) {
        meanLeastAndGreatest();
        meanIsNotCut();
        digestWrapsAround();
        digestOfEachState();
        sumsChangeNothing();
        Check.end("SumsEdgesTest");
    }

    /** "Returns the mean of by how much spans are worn.": none is worn, one is, all are worn through */
    private static void meanLeastAndGreatest() {
        Check.dueMean("mean() of a new one", new TrolleyGang().mean(), 0.0);
        Check.dueMean("mean() of all down", Rings.allDown().mean(), 100.0);
        for (int span : new int[] {0, 23}) {
            Check.dueMean("mean(), one down", Rings.withDown(span).mean(), 100 / 24.0);
        }
    }

    /** The mean is a double, so what is behind its point is not cut. */
    private static void meanIsNotCut() {
        TrolleyGang x = Rings.worn(0, 1);
        Check.dueMean("mean(), all worn by 1", x.mean(), 1.0);
        x.order(0);
        x.pass(1);
        Check.dueMean("mean(), all but one worn by 1", x.mean(), 23 / 24.0);
        TrolleyGang y = Rings.worn(5, 99);
        Check.dueMean("mean(), 99 and 23 by 24", y.mean(), (99 + 23 * 24) / 24.0);
    }

    /** "which wraps around as a 64-bit integer": held against numbers that do not wrap around */
    private static void digestWrapsAround() {
        int[] buses = {0, 1, 6};
        int[] orders = {0, 1, 6};
        for (int many : buses) {
            for (int list : orders) {
                TrolleyGang x = Rings.busy(many, list);
                Check.due("digest(), buses " + many + ", orders " + list, x.digest(), digest(x));
            }
        }
        TrolleyGang y = new TrolleyGang();
        Check.due("digest() of a new one", y.digest(), digest(y));
        TrolleyGang z = new TrolleyGang();
        z.order(0);
        z.order(5);
        z.pass(1);
        Check.due("digest(), coins less than 0", z.digest(), digest(z));
    }

    /** No bus, a swan of -1 and an order of -1 count as they are told. */
    private static void digestOfEachState() {
        TrolleyGang x = new TrolleyGang();
        long fresh = x.digest();
        x.setSwan(11, 0);
        Check.holds("a swan at 0 is not none", x.digest() != fresh);
        x.setSwan(11, -1);
        Check.due("as before", x.digest(), fresh);
        x.setCold(7, 3);
        Check.holds("the last cold", x.digest() != fresh);
        x.setCold(7, 0);
        x.setFare(false, 9);
        Check.holds("the fare by day", x.digest() != fresh);
        x.setFare(false, 2);
        x.order(23);
        Check.holds("an order", x.digest() != fresh);
        x.cancel(23);
        Check.due("as before an order", x.digest(), fresh);
        x.bus(0, false);
        Check.holds("a bus", x.digest() != fresh);
    }

    /** Neither promise tells of a change. */
    private static void sumsChangeNothing() {
        for (Twins.Ring ring : new Twins.Ring[] {TrolleyGang::new, () -> Rings.busy(6, 6)}) {
            Twins.changesNothing("mean()", ring, TrolleyGang::mean);
            Twins.changesNothing("digest()", ring, TrolleyGang::digest);
        }
    }

    private static long digest(TrolleyGang x) {
        List<Integer> all = new ArrayList<>();
        for (int what = 0; what <= 8; what++) {
            all.add(x.count(what));
        }
        addTables(x, all);
        for (int what = 0; what <= 6; what++) {
            all.add(x.gang(what));
        }
        for (int span = 0; span <= 23; span++) {
            for (int what = 0; what <= 4; what++) {
                all.add(x.span(span, what));
            }
        }
        for (int number = 0; number < x.count(3); number++) {
            for (int what = 0; what <= 6; what++) {
                all.add(x.told(number, what));
            }
        }
        BigInteger d = BigInteger.valueOf(1301);
        for (int number : all) {
            d = d.multiply(BigInteger.valueOf(31)).add(BigInteger.valueOf(number));
        }
        return d.longValue();
    }

    /** A row is read by setting it to what it is: the first call tells it, the second puts it back. */
    private static void addTables(TrolleyGang x, List<Integer> all) {
        for (int hour = 0; hour <= 7; hour++) {
            int cold = x.setCold(hour, 0);
            x.setCold(hour, cold);
            all.add(cold);
        }
        for (int hour = 0; hour <= 11; hour++) {
            int span = x.setSwan(hour, -1);
            x.setSwan(hour, span);
            all.add(span);
        }
        for (boolean isNight : new boolean[] {false, true}) {
            int coins = x.setFare(isNight, 0);
            x.setFare(isNight, coins);
            all.add(coins);
        }
    }
}
