import java.util.Arrays;

/** What a call of each kind changes, and that it changes nothing else; and an hour with one step alone. */
final class ChangesTest {
    private static final Twins.Ring BUSY = () -> Rings.busy(6, 6);

    public static void main(String[] args) {
        tables();
        buses();
        orders();
        hourOfNothing();
        hourOfFrost();
        hourOfSwan();
        hourOfBus();
        hourOfStuckBus();
        hourOfGangsWay();
        hourOfMending();
        hourOfFirstWorkWhileDown();
        hourOfPuttingUp();
        Check.end("ChangesTest");
    }

    private static void tables() {
        Twins.changesOnly("setCold(0, 3)", BUSY, x -> x.setCold(0, 3), "cold(0) = 3");
        Twins.changesOnly("setCold(7, 0)", BUSY, x -> x.setCold(7, 0), "cold(7) = 0");
        Twins.changesOnly("setCold(7, 2), as it is", BUSY, x -> x.setCold(7, 2));
        Twins.changesOnly("setSwan(0, -1)", BUSY, x -> x.setSwan(0, -1), "swan(0) = -1");
        Twins.changesOnly("setSwan(11, 0)", BUSY, x -> x.setSwan(11, 0), "swan(11) = 0");
        Twins.changesOnly("setSwan(11, 22), as it is", BUSY, x -> x.setSwan(11, 22));
        Twins.changesOnly("setFare(false, 0)", BUSY, x -> x.setFare(false, 0), "fare by day = 0");
        Twins.changesOnly("setFare(true, 9)", BUSY, x -> x.setFare(true, 9), "fare by night = 9");
    }

    private static void buses() {
        Twins.changesOnly("bus(20, true)", () -> Rings.busy(5, 6), x -> x.bus(20, true),
                "count(3) = 6", "count(4) = 5", "span(20, 3) = 2", "told(5, 0) = 20", "told(5, 1) = 1",
                "told(5, 2) = 1", "told(5, 3) = 0", "told(5, 4) = 0", "told(5, 5) = 0", "told(5, 6) = 15");
        Twins.changesOnly("fit(0, 1)", BUSY, x -> x.fit(0, 1), "told(0, 1) = 0", "told(1, 1) = 1");
        Twins.changesOnly("fit(4, 5), to one that is parked", BUSY, x -> x.fit(4, 5),
                "told(4, 1) = 0", "told(5, 1) = 1");
        Twins.changesOnly("fit(4, 1), from one that is parked", () -> Rings.busy(5, 6), x -> x.fit(4, 1),
                "told(4, 1) = 0", "told(1, 1) = 1");
        Twins.changesOnly("park(0)", BUSY, x -> x.park(0), "told(0, 2) = 0", "count(4) = 4");
        Twins.changesOnly("park(5), which is parked", BUSY, x -> x.park(5), "told(5, 2) = 1", "count(4) = 6");
    }

    private static void orders() {
        // one work is done at the first order: it stays
        Twins.changesOnly("order(1)", () -> Rings.busy(6, 5), x -> x.order(1), "gang(2) = 6", "span(1, 4) = 5");
        Twins.changesOnly("order(1), the first one", () -> Rings.busy(6, 0), x -> x.order(1),
                "gang(1) = 1", "gang(2) = 1", "gang(6) = 1", "span(1, 4) = 0");
        Twins.changesOnly("cancel(18), the last one", BUSY, x -> x.cancel(18), "gang(2) = 5", "span(18, 4) = -1");
        Twins.changesOnly("cancel(3)", BUSY, x -> x.cancel(3), "gang(2) = 5", "span(3, 4) = -1",
                "span(23, 4) = 1", "span(0, 4) = 2", "span(7, 4) = 3", "span(18, 4) = 4");
        Twins.changesOnly("cancel(12), the first one", BUSY, x -> x.cancel(12),
                "gang(1) = 3", "gang(2) = 5", "gang(3) = 0", "gang(6) = 3", "span(12, 4) = -1",
                "span(3, 4) = 0", "span(23, 4) = 1", "span(0, 4) = 2", "span(7, 4) = 3", "span(18, 4) = 4");
        Twins.changesOnly("cancel(12), the only one", () -> Rings.busy(6, 1), x -> x.cancel(12),
                "gang(1) = -1", "gang(2) = 0", "gang(3) = 0", "gang(6) = -1", "span(12, 4) = -1");
    }

    /** Bus 0 is parked, there is no order, no cold and no swan: "The hour is 1 greater." */
    private static void hourOfNothing() {
        Twins.Ring ring = () -> Rings.wornAndFrozen(4, 100, 9);
        hourChanges("an hour of nothing", ring, x -> x.pass(1));
        hourChanges("an hour by day, without frost", () -> nearDay(0), x -> x.pass(1));
    }

    /** The hour is 6, the first one by day; frost comes by no hour to come. */
    private static TrolleyGang nearDay(int frost) {
        TrolleyGang x = Rings.wornAndFrozen(4, 100, frost);
        x.pass(3);
        return x;
    }

    private static void hourOfFrost() {
        hourChanges("an hour by night with a cold of 2", () -> Rings.wornAndFrozen(4, 100, 6), x -> {
            x.setCold(3, 2);
            x.pass(1);
            x.setCold(3, 0);
        }, frostOfEach(8));
        hourChanges("an hour by day", () -> nearDay(9), x -> x.pass(1), frostOfEach(7));
    }

    private static String[] frostOfEach(int frost) {
        String[] all = new String[25];
        for (int span = 0; span < 24; span++) {
            all[span] = "span(" + span + ", 1) = " + frost;
        }
        all[24] = "count(7) = " + 24 * frost;
        return all;
    }

    private static void hourOfSwan() {
        Twins.Call call = x -> {
            x.setSwan(3, 0);
            x.pass(1);
            x.setSwan(3, -1);
        };
        hourChanges("an hour with a swan", () -> Rings.wornAndFrozen(0, 50, 9), call,
                "count(6) = 75", "span(0, 0) = 75");
        // bus 0 is at span 12
        hourChanges("an hour with a swan that brings a span down", () -> Rings.wornAndFrozen(0, 75, 9), call,
                "count(5) = 1", "count(6) = 100", "span(0, 0) = 100", "span(0, 2) = 1",
                "told(0, 6) = 11");
        hourChanges("an hour with a swan at a span that is down", () -> Rings.wornAndFrozen(0, 100, 9), call);
    }

    private static void hourOfBus() {
        hourChanges("an hour of a bus without a scraper", () -> withBusAt23(false), x -> x.pass(1),
                "count(2) = 9", "count(6) = 115", "span(23, 3) = 0", "span(0, 0) = 5",
                "span(1, 0) = 5", "span(2, 0) = 5", "span(2, 3) = 1", "told(1, 0) = 2", "told(1, 3) = 3",
                "told(1, 4) = 9", "told(1, 6) = 3");
        hourChanges("an hour of a bus with a scraper", () -> withBusAt23(true), x -> x.pass(1),
                "count(2) = 9", "count(6) = 106", "count(7) = 189", "span(23, 3) = 0",
                "span(0, 0) = 2", "span(0, 1) = 0", "span(1, 0) = 2", "span(1, 1) = 0", "span(2, 0) = 2",
                "span(2, 1) = 0", "span(2, 3) = 1", "told(1, 0) = 2", "told(1, 3) = 3", "told(1, 4) = 9",
                "told(1, 6) = 3");
    }

    /** Span 6 is down; frost is 9; bus 1 is at span 23. */
    private static TrolleyGang withBusAt23(boolean hasScraper) {
        TrolleyGang x = Rings.wornAndFrozen(6, 100, 9);
        x.bus(23, hasScraper);
        return x;
    }

    private static void hourOfStuckBus() {
        Twins.Ring ring = () -> {
            TrolleyGang x = Rings.wornAndFrozen(0, 100, 9);
            x.bus(23, true);
            return x;
        };
        hourChanges("an hour of a bus that is stuck", ring, x -> x.pass(1),
                "count(8) = 1", "told(1, 5) = 1");
    }

    private static void hourOfGangsWay() {
        Twins.Ring ring = () -> {
            TrolleyGang x = Rings.wornAndFrozen(0, 100, 9);
            x.order(19);
            x.order(3);
            return x;
        };
        hourChanges("an hour of the gang's way", ring, x -> x.pass(1),
                "gang(0) = 20", "gang(6) = 1");
    }

    private static void hourOfMending() {
        hourChanges("a work that is not enough", () -> withOrdersAt0(99), x -> x.pass(1),
                "count(2) = -2", "count(6) = " + (69 + 23 * 24), "gang(3) = 1", "gang(4) = 1",
                "span(0, 0) = 69");
        hourChanges("a work that is enough", () -> withOrdersAt0(50), x -> x.pass(1),
                "count(2) = -2", "count(6) = 20", "gang(1) = 6", "gang(2) = 1", "gang(4) = 1",
                "gang(6) = 2", "span(0, 0) = 20", "span(0, 4) = -1", "span(6, 4) = 0");
    }

    /** Span 0 is worn by so much; frost is 9; there are orders for spans 0 and 6. */
    private static TrolleyGang withOrdersAt0(int worn) {
        TrolleyGang x = Rings.wornAndFrozen(0, worn, 9);
        x.order(0);
        x.order(6);
        return x;
    }

    private static void hourOfFirstWorkWhileDown() {
        hourChanges("a first work at a span that is down", () -> withOrdersAt0(100), x -> x.pass(1),
                "count(2) = -2", "gang(3) = 1", "gang(4) = 1");
    }

    private static void hourOfPuttingUp() {
        Twins.Ring ring = () -> {
            TrolleyGang x = withOrdersAt0(100);
            x.pass(1);
            return x;
        };
        hourChanges("a second work at a span that is down", ring, x -> x.pass(1),
                "count(2) = -4", "count(5) = 0", "count(6) = 50", "gang(1) = 6", "gang(2) = 1",
                "gang(3) = 0", "gang(4) = 2", "gang(5) = 1", "gang(6) = 2", "span(0, 0) = 50", "span(0, 2) = 0",
                "span(0, 4) = -1", "span(6, 4) = 0", "told(0, 6) = 24");
    }

    /** The call lets an hour go by, and changes this alone beside the hour. */
    private static void hourChanges(String what, Twins.Ring ring, Twins.Call call, String... due) {
        String[] all = Arrays.copyOf(due, due.length + 1);
        all[due.length] = "count(0) = " + (ring.make().count(0) + 1);
        Twins.changesOnly(what, ring, call, all);
    }
}
