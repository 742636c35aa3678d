/** Promises 5 to 9: buses, and what is told of them and of spans. */
final class BusesTest {
    public static void main(String[] args) {
        bus();
        fit();
        park();
        told();
        spansUpAhead();
        span();
        Check.end("BusesTest");
    }

    private static void bus() {
        TrolleyGang x = new TrolleyGang();
        Check.refusedIndex(x, "bus(24, true)", () -> x.bus(24, true));
        Check.refusedIndex(x, "bus(-1, true)", () -> x.bus(-1, true));
        int[] spans = {0, 23, 7, 7, 1, 12};
        for (int number = 0; number < 6; number++) {
            Check.due("bus(" + spans[number] + ", ..)", x.bus(spans[number], number % 2 == 1), number);
            Check.due("told(" + number + ", 0)", x.told(number, 0), spans[number]);
            Check.due("told(" + number + ", 1)", x.told(number, 1), number % 2);
            Check.due("told(" + number + ", 2)", x.told(number, 2), 1);
            for (int what = 3; what < 6; what++) {
                Check.due("told(" + number + ", " + what + ")", x.told(number, what), 0);
            }
            Check.due("count(3)", x.count(3), number + 1);
        }
        Check.refusedState(x, "bus(0, true) as a seventh", () -> x.bus(0, true));
        Check.refusedIndex(x, "bus(24, true) as a seventh", () -> x.bus(24, true));
    }

    private static void fit() {
        TrolleyGang x = new TrolleyGang();
        Check.refusedIndex(x, "fit(0, 0) without buses", () -> x.fit(0, 0));
        x.bus(4, true);
        x.bus(9, false);
        x.bus(15, true);
        x.bus(16, false);
        Check.refusedIndex(x, "fit(-1, 1)", () -> x.fit(-1, 1));
        Check.refusedIndex(x, "fit(4, 1)", () -> x.fit(4, 1));
        Check.refusedIndex(x, "fit(0, -1)", () -> x.fit(0, -1));
        Check.refusedIndex(x, "fit(0, 4)", () -> x.fit(0, 4));
        Check.refusedIndex(x, "fit(1, 4), and 1 has none", () -> x.fit(1, 4));
        Check.refusedState(x, "fit(1, 3): both without", () -> x.fit(1, 3));
        Check.refusedState(x, "fit(0, 2): both with", () -> x.fit(0, 2));
        Check.refusedState(x, "fit(1, 0): the wrong way", () -> x.fit(1, 0));
        Check.refusedState(x, "fit(0, 0): itself, with", () -> x.fit(0, 0));
        Check.refusedState(x, "fit(1, 1): itself, without", () -> x.fit(1, 1));
        Check.due("fit(0, 1)", x.fit(0, 1), 9);
        Check.due("told(0, 1) behind fit", x.told(0, 1), 0);
        Check.due("told(1, 1) behind fit", x.told(1, 1), 1);
        x.park(2);
        x.park(3);
        Check.due("fit(2, 3) while parked", x.fit(2, 3), 16);
    }

    private static void park() {
        TrolleyGang x = new TrolleyGang();
        Check.refusedIndex(x, "park(0) without buses", () -> x.park(0));
        x.bus(0, true);
        x.bus(0, false);
        Check.refusedIndex(x, "park(-1)", () -> x.park(-1));
        Check.refusedIndex(x, "park(2)", () -> x.park(2));
        Check.due("park(0)", x.park(0), false);
        Check.due("told(0, 2) parked", x.told(0, 2), 0);
        Check.due("told(1, 2) running", x.told(1, 2), 1);
        Check.due("count(4)", x.count(4), 1);
        x.pass(1);
        Check.due("told(0, 0) parked", x.told(0, 0), 0);
        Check.due("told(1, 0) running", x.told(1, 0), 3);
        Check.due("park(0) again", x.park(0), true);
        Check.due("told(0, 2) running again", x.told(0, 2), 1);
        x.pass(1);
        Check.due("told(0, 0) running again", x.told(0, 0), 3);
    }

    private static void told() {
        TrolleyGang x = Rings.withDown(2);
        x.bus(20, true);
        x.bus(1, false);
        Check.refusedIndex(x, "told(-1, 0)", () -> x.told(-1, 0));
        Check.refusedIndex(x, "told(2, 0)", () -> x.told(2, 0));
        Check.refusedIndex(x, "told(0, -1)", () -> x.told(0, -1));
        Check.refusedIndex(x, "told(0, 7)", () -> x.told(0, 7));
        // hours 4 and 5 are night, hour 6 is day: bus 0 comes to 23, then to 1 by two spans more, then is stuck
        x.pass(3);
        int[] first = {1, 1, 1, 5, 15, 2, 0};
        int[] second = {1, 0, 1, 0, 0, 3, 0};
        for (int what = 0; what < 7; what++) {
            Check.due("told(0, " + what + ")", x.told(0, what), first[what]);
            Check.due("told(1, " + what + ")", x.told(1, what), second[what]);
        }
        Check.due("count(8)", x.count(8), 5);
    }

    private static void spansUpAhead() {
        TrolleyGang x = Rings.withDown(2);
        int[] spans = {1, 0, 23, 3, 2};
        int[] up = {0, 1, 2, 22, 23};
        for (int number = 0; number < spans.length; number++) {
            x.bus(spans[number], false);
            Check.due("told(" + number + ", 6) at " + spans[number], x.told(number, 6), up[number]);
        }
        TrolleyGang y = new TrolleyGang();
        y.bus(5, false);
        Check.due("told(0, 6), none down", y.told(0, 6), 24);
    }

    private static void span() {
        TrolleyGang x = Rings.frozenAndWorn();
        Check.refusedIndex(x, "span(-1, 0)", () -> x.span(-1, 0));
        Check.refusedIndex(x, "span(24, 0)", () -> x.span(24, 0));
        Check.refusedIndex(x, "span(0, -1)", () -> x.span(0, -1));
        Check.refusedIndex(x, "span(0, 5)", () -> x.span(0, 5));
        x.bus(2, false);
        x.bus(2, true);
        x.bus(3, true);
        x.park(1);
        x.order(5);
        x.order(2);
        int[] two = {75, 9, 0, 2, 1};
        int[] three = {0, 9, 0, 1, -1};
        for (int what = 0; what < 5; what++) {
            Check.due("span(2, " + what + ")", x.span(2, what), two[what]);
            Check.due("span(3, " + what + ")", x.span(3, what), three[what]);
        }
        Check.due("span(5, 4)", x.span(5, 4), 0);
        x.cancel(5);
        Check.due("span(2, 4) behind cancel(5)", x.span(2, 4), 0);
        x.cancel(2);
        Check.due("span(2, 4) behind cancel(2)", x.span(2, 4), -1);
        Rings.swans(x, 2, 1);
        Check.due("span(2, 0) down", x.span(2, 0), 100);
        Check.due("span(2, 2) down", x.span(2, 2), 1);
    }
}
