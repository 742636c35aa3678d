/** Promises 1 to 4: a new object, and the tables. */
final class TablesTest {
    public static void main(String[] args) {
        newObject();
        cold();
        swan();
        fare();
        Check.end("TablesTest");
    }

    private static void newObject() {
        TrolleyGang x = new TrolleyGang();
        int[] counts = {0, 1, 0, 0, 0, 0, 0, 0, 0};
        for (int what = 0; what < counts.length; what++) {
            Check.due("new: count(" + what + ")", x.count(what), counts[what]);
        }
        int[] gang = {0, -1, 0, 0, 0, 0, -1};
        for (int what = 0; what < gang.length; what++) {
            Check.due("new: gang(" + what + ")", x.gang(what), gang[what]);
        }
        int[] span = {0, 0, 0, 0, -1};
        for (int number = 0; number < 24; number++) {
            for (int what = 0; what < span.length; what++) {
                Check.due("new: span(" + number + ", " + what + ")", x.span(number, what), span[what]);
            }
        }
        Check.refusedIndex(x, "new: told(0, 0)", () -> x.told(0, 0));
        Check.dueMean("new: mean()", x.mean(), 0.0);
        TrolleyGang other = new TrolleyGang();
        other.setCold(0, 3);
        other.bus(1, true);
        other.pass(5);
        Check.due("new beside another: count(0)", x.count(0), 0);
        Check.due("new beside another: setCold(0, 0)", x.setCold(0, 0), 0);
    }

    private static void cold() {
        TrolleyGang x = new TrolleyGang();
        for (int hour = 0; hour < 8; hour++) {
            Check.due("setCold(" + hour + ", first)", x.setCold(hour, hour % 4), 0);
        }
        for (int hour = 0; hour < 8; hour++) {
            Check.due("setCold(" + hour + ", again)", x.setCold(hour, 3), hour % 4);
        }
        Check.refusedIndex(x, "setCold(-1, 0)", () -> x.setCold(-1, 0));
        Check.refusedIndex(x, "setCold(8, 0)", () -> x.setCold(8, 0));
        Check.refusedIndex(x, "setCold(8, 4)", () -> x.setCold(8, 4));
        Check.refusedIndex(x, "setCold(least, -1)", () -> x.setCold(Integer.MIN_VALUE, -1));
        Check.refusedArgument(x, "setCold(0, 4)", () -> x.setCold(0, 4));
        Check.refusedArgument(x, "setCold(7, -1)", () -> x.setCold(7, -1));
        Check.refusedArgument(x, "setCold(7, greatest)", () -> x.setCold(7, Integer.MAX_VALUE));
        Check.due("setCold(7, 0) behind wrong ones", x.setCold(7, 0), 3);
    }

    private static void swan() {
        TrolleyGang x = new TrolleyGang();
        for (int hour = 0; hour < 12; hour++) {
            Check.due("setSwan(" + hour + ", first)", x.setSwan(hour, 2 * hour + 1), -1);
        }
        for (int hour = 0; hour < 12; hour++) {
            Check.due("setSwan(" + hour + ", 0)", x.setSwan(hour, 0), 2 * hour + 1);
        }
        Check.due("setSwan(11, -1)", x.setSwan(11, -1), 0);
        Check.due("setSwan(11, 23)", x.setSwan(11, 23), -1);
        Check.refusedIndex(x, "setSwan(-1, 0)", () -> x.setSwan(-1, 0));
        Check.refusedIndex(x, "setSwan(12, 0)", () -> x.setSwan(12, 0));
        Check.refusedIndex(x, "setSwan(12, 24)", () -> x.setSwan(12, 24));
        Check.refusedArgument(x, "setSwan(0, 24)", () -> x.setSwan(0, 24));
        Check.refusedArgument(x, "setSwan(11, -2)", () -> x.setSwan(11, -2));
        Check.due("setSwan(11, 0) behind wrong ones", x.setSwan(11, 0), 23);
    }

    private static void fare() {
        TrolleyGang x = new TrolleyGang();
        Check.due("setFare(false, 9)", x.setFare(false, 9), 2);
        Check.due("setFare(true, 0)", x.setFare(true, 0), 3);
        Check.due("setFare(false, 0)", x.setFare(false, 0), 9);
        Check.due("setFare(true, 9)", x.setFare(true, 9), 0);
        Check.refusedArgument(x, "setFare(true, 10)", () -> x.setFare(true, 10));
        Check.refusedArgument(x, "setFare(false, -1)", () -> x.setFare(false, -1));
        Check.due("setFare(true, 1) behind wrong ones", x.setFare(true, 1), 9);
        Check.due("setFare(false, 1) behind wrong ones", x.setFare(false, 1), 0);
    }
}
