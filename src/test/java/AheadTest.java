/** Promises 15 to 17: what would be. */
final class AheadTest {
    public static void main(String[] args) {
        falls();
        fallsBehind96Hours();
        fallsWithOrders();
        fallsAndIsPutUpWithinAnHour();
        foreseeWrong();
        foresee();
        foreseeOrders();
        adviseWrong();
        advise();
        adviseFirstAndLastSpan();
        adviseTies();
        adviseOnlyOrder();
        Check.end("AheadTest");
    }

    private static void falls() {
        TrolleyGang x = new TrolleyGang();
        Check.refusedIndex(x, "falls(-1)", () -> x.falls(-1));
        Check.refusedIndex(x, "falls(24)", () -> x.falls(24));
        Check.due("falls(0), nothing there", x.falls(0), -1);
        x.setSwan(11, 23);
        Check.due("falls(23) by four swans", x.falls(23), 48);
        Check.changesNothing(x, "falls(23)", () -> x.falls(23));
        x.pass(47);
        Check.due("falls(23) an hour ahead", x.falls(23), 1);
        x.pass(1);
        Check.due("falls(23) now", x.falls(23), 0);
        Check.due("falls(22)", x.falls(22), -1);
    }

    /** Span 2 is worn by 87 or 88, its frost is 0, and one bus comes there every eighth hour and wears it by 1. */
    private static TrolleyGang nearlyWornThrough(boolean byOneMore) {
        TrolleyGang x = Rings.frozenAndWorn();
        x.bus(1, false);
        x.bus(1, false);
        x.bus(1, true);
        x.bus(1, false);
        if (!byOneMore) {
            x.park(3);
        }
        x.pass(1);
        for (int number = 1; number < 4; number++) {
            if (x.told(number, 2) == 1) {
                x.park(number);
            }
        }
        return x;
    }

    private static void fallsBehind96Hours() {
        TrolleyGang x = nearlyWornThrough(true);
        Check.due("worn", x.span(2, 0), 88);
        Check.due("falls(2), at most 96", x.falls(2), 96);
        TrolleyGang y = nearlyWornThrough(false);
        Check.due("worn", y.span(2, 0), 87);
        Check.due("falls(2), not by 96", y.falls(2), -1);
        y.pass(7);
        Check.due("falls(2), seven hours later: 97 less 7", y.falls(2), -1);
        y.pass(1);
        Check.due("falls(2), eight hours later", y.falls(2), 96);
    }

    private static void fallsWithOrders() {
        TrolleyGang x = new TrolleyGang();
        for (int hour = 0; hour < 4; hour++) {
            x.setSwan(hour, 4);
        }
        Check.due("falls(4) without orders", x.falls(4), 4);
        x.order(4);
        // mended in the hour 0, worn by 75 in the hours 1 to 3, down in the hour 12
        Check.due("falls(4): the gang's orders go on", x.falls(4), 13);
        Check.changesNothing(x, "falls(4) with orders", () -> x.falls(4));
        TrolleyGang y = Rings.withDown(0);
        y.order(0);
        y.pass(1);
        Check.due("falls(0) while down, with a work", y.falls(0), 0);
    }

    private static void fallsAndIsPutUpWithinAnHour() {
        TrolleyGang x = Rings.withOneWorkWhileUp();
        x.setSwan(4, 2);
        Check.due("foresee(1, 5)", x.foresee(1, 5), 0);
        Check.holds("a span that is put up in the hour in which it came down is not down behind it", x.falls(2) > 1);
        x.cancel(2);
        Check.due("falls(2) without the order", x.falls(2), 1);
    }

    private static void foreseeWrong() {
        TrolleyGang x = new TrolleyGang();
        x.bus(3, false);
        int[] hours = {0, -1, 73, Integer.MAX_VALUE, Integer.MIN_VALUE};
        for (int wrong : hours) {
            Check.refusedArgument(x, "foresee(" + wrong + ", 2)", () -> x.foresee(wrong, 2));
            Check.refusedArgument(x, "foresee(" + wrong + ", 0)", () -> x.foresee(wrong, 0));
        }
        int[] whats = {-1, 0, 1, 3, 4, 9, Integer.MAX_VALUE, Integer.MIN_VALUE};
        for (int wrong : whats) {
            Check.refusedIndex(x, "foresee(1, " + wrong + ")", () -> x.foresee(1, wrong));
            Check.refusedIndex(x, "foresee(72, " + wrong + ")", () -> x.foresee(72, wrong));
        }
    }

    private static TrolleyGang busyRing() {
        TrolleyGang x = Rings.frozenAndWorn();
        x.setCold(5, 2);
        x.setCold(6, 3);
        x.setSwan(4, 2);
        x.setSwan(9, 17);
        x.bus(20, true);
        x.bus(1, false);
        x.bus(9, false);
        x.park(2);
        x.order(17);
        x.order(2);
        x.pass(2);
        return x;
    }

    private static void foresee() {
        int[] hours = {1, 2, 5, 24, 71, 72};
        int[] whats = {2, 5, 6, 7, 8};
        for (int many : hours) {
            TrolleyGang x = busyRing();
            TrolleyGang y = busyRing();
            y.pass(many);
            for (int what : whats) {
                Check.due("foresee(" + many + ", " + what + ")", x.foresee(many, what), y.count(what));
                Check.changesNothing(x, "foresee(" + many + ", " + what + ")", () -> x.foresee(many, what));
            }
            x.pass(many);
            Check.due("digest() behind looks ahead", x.digest(), y.digest());
        }
        TrolleyGang z = Rings.withDown(2);
        z.bus(1, false);
        z.pass(2);
        Check.due("foresee(3, 8) with the hours that were", z.foresee(3, 8), 5);
        Check.due("foresee(3, 5)", z.foresee(3, 5), 1);
        Check.due("foresee(3, 6)", z.foresee(3, 6), 100);
    }

    private static void foreseeOrders() {
        TrolleyGang x = Rings.withDown(0);
        x.order(0);
        Check.due("foresee(1, 2)", x.foresee(1, 2), -2);
        Check.due("foresee(1, 5)", x.foresee(1, 5), 1);
        Check.due("foresee(2, 5)", x.foresee(2, 5), 0);
        Check.due("foresee(72, 2)", x.foresee(72, 2), -4);
        x.setCold(4, 3);
        Check.due("foresee(1, 7)", x.foresee(1, 7), 72);
        Check.due("gang(2)", x.gang(2), 1);
    }

    private static void adviseWrong() {
        TrolleyGang x = new TrolleyGang();
        int[] hours = {0, -1, 49, Integer.MAX_VALUE, Integer.MIN_VALUE};
        for (int wrong : hours) {
            Check.refusedArgument(x, "advise(" + wrong + ")", () -> x.advise(wrong));
        }
        Check.due("advise(1)", x.advise(1), -1);
        Check.due("advise(48)", x.advise(48), -1);
    }

    private static void advise() {
        // span 2 is down, a bus is stuck ahead of it; by night a bus earns 9 an hour, two works cost 4
        TrolleyGang x = Rings.withDown(2);
        x.bus(1, true);
        Check.due("advise(1)", x.advise(1), -1);
        Check.due("advise(2)", x.advise(2), -1);
        Check.due("advise(3)", x.advise(3), 2);
        Check.due("advise(48)", x.advise(48), 2);
        Check.changesNothing(x, "advise(48)", () -> x.advise(48));
        Check.due("gang(2)", x.gang(2), 0);
        x.setFare(true, 0);
        x.setFare(false, 0);
        Check.due("advise(48) without fares", x.advise(48), -1);
        // up to span 4 only two spans more: for 2 coins each the works just pay
        TrolleyGang y = Rings.withDown(2, 4);
        y.bus(1, true);
        y.setFare(false, 2);
        Check.due("advise(11) for as many coins", y.advise(11), -1);
        y.setFare(false, 3);
        Check.due("advise(11) for more coins", y.advise(11), 2);
    }

    private static void adviseFirstAndLastSpan() {
        for (int span : new int[] {0, 23}) {
            TrolleyGang x = Rings.withDown(span);
            x.bus((span + 23) % 24, true);
            Check.due("advise(4), span " + span + " is down", x.advise(4), span);
        }
    }

    private static void adviseTies() {
        TrolleyGang x = Rings.withDown(2, 22);
        x.bus(1, true);
        x.bus(21, true);
        Check.due("advise(3), both as good", x.advise(3), 2);
        TrolleyGang y = Rings.withDown(2, 22);
        y.bus(1, true);
        y.bus(21, true);
        y.bus(21, true);
        Check.due("advise(3), the greater one better", y.advise(3), 22);
    }

    private static void adviseOnlyOrder() {
        // a work done already does not count for the order that is looked at
        TrolleyGang x = Rings.withDown(2);
        x.bus(1, true);
        x.order(2);
        x.pass(1);
        Check.due("works", x.gang(3), 1);
        Check.due("foresee(2, 2) with the order that is there", x.foresee(2, 2), -2 - 2 + 6);
        Check.due("advise(2)", x.advise(2), -1);
        Check.due("advise(3)", x.advise(3), 2);
        // it is held against no order at all, and orders that are there do not count
        TrolleyGang y = Rings.withDown(2);
        y.bus(1, true);
        y.order(14);
        y.order(15);
        y.order(16);
        Check.due("advise(3) with other orders", y.advise(3), 2);
        Check.changesNothing(y, "advise(3)", () -> y.advise(3));
        TrolleyGang z = Rings.withDown(2);
        z.bus(1, true);
        z.order(2);
        Check.due("advise(3) with the best order there", z.advise(3), 2);
        // the gang sets out from where it is now
        TrolleyGang far = Rings.withDown(2);
        far.bus(1, true);
        far.order(12);
        far.pass(3);
        Check.due("gang(0)", far.gang(0), 12);
        Check.due("advise(4): there in three hours", far.advise(4), -1);
        Check.due("advise(5)", far.advise(5), 2);
    }
}
