/** Promises 18 and 19: the mean and the checksum. */
final class SumsTest {
    public static void main(String[] args) {
        mean();
        digestOfNew();
        digestOfBusy();
        digestTellsApart();
        Check.end("SumsTest");
    }

    private static void mean() {
        TrolleyGang x = new TrolleyGang();
        Check.dueMean("mean() of a new one", x.mean(), 0.0);
        x.bus(0, false);
        x.pass(1);
        Check.dueMean("mean() of 3", x.mean(), 0.125);
        Rings.swans(x, 20, 1);
        Check.dueMean("mean() of 31", x.mean(), 31 / 24.0);
        Check.changesNothing(x, "mean()", x::mean);
        Check.dueMean("mean() of all down", Rings.allDown().mean(), 100.0);
    }

    private static void digestOfNew() {
        long d = 1301;
        int[] counts = {0, 1, 0, 0, 0, 0, 0, 0, 0};
        d = add(d, counts);
        d = add(d, new int[8]);
        d = add(d, new int[] {-1, -1, -1, -1, -1, -1, -1, -1, -1, -1, -1, -1});
        d = add(d, new int[] {2, 3});
        d = add(d, new int[] {0, -1, 0, 0, 0, 0, -1});
        for (int span = 0; span < 24; span++) {
            d = add(d, new int[] {0, 0, 0, 0, -1});
        }
        Check.due("digest() of a new one", new TrolleyGang().digest(), d);
    }

    private static void digestOfBusy() {
        TrolleyGang x = new TrolleyGang();
        int[] colds = {1, 2, 3, 0, 1, 2, 3, 2};
        int[] swans = {5, -1, 7, 23, 0, 5, 5, -1, 5, 9, 10, 11};
        for (int hour = 0; hour < 8; hour++) {
            x.setCold(hour, colds[hour]);
        }
        for (int hour = 0; hour < 12; hour++) {
            x.setSwan(hour, swans[hour]);
        }
        x.setFare(false, 4);
        x.setFare(true, 6);
        for (int number = 0; number < 4; number++) {
            x.bus(5 * number, number % 2 == 0);
        }
        x.order(5);
        x.order(20);
        x.pass(37);
        x.order(3);
        x.order(9);
        long d = 1301;
        for (int what = 0; what < 9; what++) {
            d = d * 31 + x.count(what);
        }
        d = add(d, colds);
        d = add(d, swans);
        d = add(d, new int[] {4, 6});
        for (int what = 0; what < 7; what++) {
            d = d * 31 + x.gang(what);
        }
        for (int span = 0; span < 24; span++) {
            for (int what = 0; what < 5; what++) {
                d = d * 31 + x.span(span, what);
            }
        }
        for (int number = 0; number < 4; number++) {
            for (int what = 0; what < 7; what++) {
                d = d * 31 + x.told(number, what);
            }
        }
        Check.due("digest() of a busy one", x.digest(), d);
        Check.due("digest() again", x.digest(), d);
    }

    private static void digestTellsApart() {
        TrolleyGang x = new TrolleyGang();
        long before = x.digest();
        x.setFare(true, 3);
        Check.due("digest() behind a fare as it was", x.digest(), before);
        x.setCold(3, 1);
        Check.holds("digest() tells a cold", x.digest() != before);
        x.setCold(3, 0);
        x.setSwan(3, 1);
        Check.holds("digest() tells a swan", x.digest() != before);
        x.setSwan(3, -1);
        Check.due("digest() of all as it was", x.digest(), before);
    }

    private static long add(long start, int[] numbers) {
        long d = start;
        for (int number : numbers) {
            d = d * 31 + number;
        }
        return d;
    }
}
