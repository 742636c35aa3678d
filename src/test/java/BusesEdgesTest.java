/** Promises 5 to 9, each sentence that names a boundary case. */
final class BusesEdgesTest {
    private static final Twins.Ring FULL = () -> Rings.busy(6, 6);

    public static void main(String[] args) {
        busSpan();
        busNumbers();
        busSeventh();
        busBothWrong();
        fitNoSuchBus();
        fitRefuses();
        fitBothWrong();
        fitTakes();
        parkNoSuchBus();
        parkAndRun();
        toldNoSuchBus();
        toldWhat();
        toldFaresAndHours();
        toldSpansUp();
        spanNoSuchSpan();
        spanWhat();
        spanDown();
        spanBuses();
        spanPlace();
        Check.end("BusesEdgesTest");
    }

    /** "Throws IndexOutOfBoundsException if span is not 0 to 23" */
    private static void busSpan() {
        for (int buses : new int[] {0, 5}) {
            for (int wrong : new int[] {-1, 24, Twins.LEAST, Twins.GREATEST}) {
                Twins.refusedIndex("bus(" + wrong + ", true)", () -> Rings.busy(buses, 2), x -> x.bus(wrong, true));
                Twins.refusedIndex("bus(" + wrong + ", false)", () -> Rings.busy(buses, 2), x -> x.bus(wrong, false));
            }
        }
        TrolleyGang x = new TrolleyGang();
        Check.due("bus(0, false)", x.bus(0, false), 0);
        Check.due("bus(23, true)", x.bus(23, true), 1);
        Check.due("at span 0", x.told(0, 0), 0);
        Check.due("at span 23", x.told(1, 0), 23);
        Check.due("without a scraper", x.told(0, 1), 0);
        Check.due("with a scraper", x.told(1, 1), 1);
    }

    /** "Returns its number.", from 0, to 5 */
    private static void busNumbers() {
        TrolleyGang x = new TrolleyGang();
        for (int number = 0; number < 6; number++) {
            Check.due("bus(9, true)", x.bus(9, true), number);
            Check.due("buses", x.count(3), number + 1);
        }
    }

    /** "Throws IllegalStateException if there are 6" */
    private static void busSeventh() {
        Twins.refusedState("bus(0, true) as a seventh", FULL, x -> x.bus(0, true));
        Twins.refusedState("bus(23, false) as a seventh", FULL, x -> x.bus(23, false));
        Twins.refusedState("a seventh while all are parked", BusesEdgesTest::allParked, x -> x.bus(5, false));
        Check.due("a sixth is taken", Rings.busy(5, 0).bus(0, true), 5);
    }

    private static TrolleyGang allParked() {
        TrolleyGang x = new TrolleyGang();
        for (int number = 0; number < 6; number++) {
            x.bus(number, true);
            x.park(number);
        }
        return x;
    }

    /** "If several exceptions apply, the one that is named first is thrown." */
    private static void busBothWrong() {
        Twins.refusedIndex("bus(-1, true) as a seventh", FULL, x -> x.bus(-1, true));
        Twins.refusedIndex("bus(24, false) as a seventh", FULL, x -> x.bus(24, false));
    }

    /** "Throws IndexOutOfBoundsException if there is no such bus" */
    private static void fitNoSuchBus() {
        Twins.refusedIndex("fit(0, 0) without buses", TrolleyGang::new, x -> x.fit(0, 0));
        for (int buses : new int[] {1, 2, 6}) {
            for (int wrong : new int[] {-1, buses, Twins.LEAST, Twins.GREATEST}) {
                Twins.refusedIndex("fit(" + wrong + ", 0)", () -> Rings.busy(buses, 0), x -> x.fit(wrong, 0));
                Twins.refusedIndex("fit(0, " + wrong + ")", () -> Rings.busy(buses, 0), x -> x.fit(0, wrong));
                Twins.refusedIndex("fit(" + wrong + ", same)", () -> Rings.busy(buses, 0), x -> x.fit(wrong, wrong));
            }
        }
    }

    /** "Throws IllegalStateException if the first one has none, or the other one has one" */
    private static void fitRefuses() {
        Twins.refusedState("fit(1, 3): the first one has none", FULL, x -> x.fit(1, 3));
        Twins.refusedState("fit(0, 2): the other one has one", FULL, x -> x.fit(0, 2));
        Twins.refusedState("fit(5, 0): both", FULL, x -> x.fit(5, 0));
        Twins.refusedState("fit(0, 0): itself, with one", FULL, x -> x.fit(0, 0));
        Twins.refusedState("fit(5, 5): itself, without", FULL, x -> x.fit(5, 5));
        Twins.refusedState("fit(0, 0), the only bus", () -> Rings.busy(1, 0), x -> x.fit(0, 0));
    }

    /** "If several exceptions apply, the one that is named first is thrown." */
    private static void fitBothWrong() {
        Twins.refusedIndex("fit(1, 6): the first one has none", FULL, x -> x.fit(1, 6));
        Twins.refusedIndex("fit(1, -1): the first one has none", FULL, x -> x.fit(1, -1));
        Twins.refusedIndex("fit(6, 0): the other one has one", FULL, x -> x.fit(6, 0));
        Twins.refusedIndex("fit(-1, 0): the other one has one", FULL, x -> x.fit(-1, 0));
    }

    /** "Returns the span at which the other one is." */
    private static void fitTakes() {
        TrolleyGang x = new TrolleyGang();
        int[] spans = {23, 4, 8, 12, 16, 0};
        for (int number = 0; number < 6; number++) {
            x.bus(spans[number], number == 0);
        }
        Check.due("fit(0, 5)", x.fit(0, 5), 0);
        Check.due("the last one has it", x.told(5, 1), 1);
        Check.due("the first one has none", x.told(0, 1), 0);
        Check.due("fit(5, 0)", x.fit(5, 0), 23);
        Check.due("the first one has it again", x.told(0, 1), 1);
        Check.due("the last one has none", x.told(5, 1), 0);
        Twins.refusedState("fit(0, 1) twice", () -> fitted(), ring -> ring.fit(0, 1));
    }

    private static TrolleyGang fitted() {
        TrolleyGang x = new TrolleyGang();
        x.bus(3, true);
        x.bus(4, false);
        x.fit(0, 1);
        return x;
    }

    /** "Throws IndexOutOfBoundsException if there is no such bus" */
    private static void parkNoSuchBus() {
        Twins.refusedIndex("park(0) without buses", TrolleyGang::new, x -> x.park(0));
        for (int buses : new int[] {1, 3, 6}) {
            for (int wrong : new int[] {-1, buses, Twins.LEAST, Twins.GREATEST}) {
                Twins.refusedIndex("park(" + wrong + ")", () -> Rings.busy(buses, 1), x -> x.park(wrong));
            }
        }
    }

    /** "Parks a bus, or lets it run, if it is parked.", "Returns whether it runs then." */
    private static void parkAndRun() {
        TrolleyGang x = new TrolleyGang();
        for (int number = 0; number < 6; number++) {
            x.bus(4 * number, false);
        }
        for (int number : new int[] {0, 5}) {
            Check.due("park(" + number + ")", x.park(number), false);
            Check.due("parked", x.told(number, 2), 0);
            Check.due("those that run", x.count(4), 5);
            Check.due("park(" + number + ") again", x.park(number), true);
            Check.due("runs", x.told(number, 2), 1);
            Check.due("all run", x.count(4), 6);
        }
        for (int number = 0; number < 6; number++) {
            x.park(number);
            Check.due("those that run still", x.count(4), 5 - number);
        }
        Check.due("an hour while all are parked", x.pass(1), 0);
    }

    /** "Throws IndexOutOfBoundsException if there is no such bus, or what is not 0 to 6" */
    private static void toldNoSuchBus() {
        for (int buses : new int[] {0, 1, 5, 6}) {
            for (int wrong : new int[] {-1, buses, Twins.LEAST, Twins.GREATEST}) {
                Twins.refusedIndex("told(" + wrong + ", 0)", () -> Rings.busy(buses, 1), x -> x.told(wrong, 0));
                Twins.refusedIndex("told(" + wrong + ", 6)", () -> Rings.busy(buses, 1), x -> x.told(wrong, 6));
                Twins.refusedIndex("told(" + wrong + ", 7)", () -> Rings.busy(buses, 1), x -> x.told(wrong, 7));
            }
        }
    }

    /** "Throws IndexOutOfBoundsException if there is no such bus, or what is not 0 to 6" */
    private static void toldWhat() {
        for (int wrong : new int[] {-1, 7, Twins.LEAST, Twins.GREATEST}) {
            Twins.refusedIndex("told(0, " + wrong + ")", FULL, x -> x.told(0, wrong));
            Twins.refusedIndex("told(5, " + wrong + ")", FULL, x -> x.told(5, wrong));
        }
        for (int what = 0; what <= 6; what++) {
            int taken = what;
            Twins.changesNothing("told(0, " + what + ")", FULL, x -> x.told(0, taken));
            Twins.changesNothing("told(5, " + what + ")", FULL, x -> x.told(5, taken));
        }
    }

    /** "3 spans to which it came in all, 4 fares that it took in all, 5 hours in all in which it was stuck" */
    private static void toldFaresAndHours() {
        TrolleyGang x = Rings.withDown(2);
        x.bus(0, false);
        for (int what = 3; what <= 5; what++) {
            Check.due("told(0, " + what + ") of a new bus", x.told(0, what), 0);
        }
        x.pass(1);
        Check.due("spans", x.told(0, 3), 1);
        Check.due("fares by night", x.told(0, 4), 3);
        Check.due("hours", x.told(0, 5), 1);
        x.setFare(true, 9);
        x.pass(1);
        Check.due("spans while stuck", x.told(0, 3), 1);
        Check.due("fares while stuck", x.told(0, 4), 3);
        Check.due("hours, two", x.told(0, 5), 2);
        x.order(2);
        x.pass(2);
        x.pass(1);
        Check.due("spans in all", x.told(0, 3), 4);
        Check.due("fares in all: 3, and three by day", x.told(0, 4), 9);
        Check.due("hours in all", x.told(0, 5), 4);
    }

    /** "6 spans that are up from the next one on, till the first one that is down, its own one as the last of 24" */
    private static void toldSpansUp() {
        for (int down : new int[] {0, 11, 23}) {
            for (int at = 0; at < 24; at++) {
                TrolleyGang x = Rings.withDown(down);
                x.bus(at, false);
                Check.due("at " + at + ", " + down + " is down", x.told(0, 6), (down - at + 23) % 24);
            }
        }
        // "(24, if none is down)"
        for (int at : new int[] {0, 11, 23}) {
            TrolleyGang x = new TrolleyGang();
            x.bus(at, true);
            Check.due("at " + at + ", none is down", x.told(0, 6), 24);
        }
        TrolleyGang all = Rings.allDown();
        all.bus(23, false);
        Check.due("all are down", all.told(0, 6), 0);
        // the first one counts, not the last one, and not only its own
        TrolleyGang two = Rings.withDown(5, 9);
        two.bus(5, false);
        two.bus(4, false);
        two.bus(9, false);
        Check.due("from 5, which is down, to 9", two.told(0, 6), 3);
        Check.due("from 4 to 5", two.told(1, 6), 0);
        Check.due("from 9, which is down, to 5", two.told(2, 6), 19);
    }

    /** "Throws IndexOutOfBoundsException if span is not 0 to 23, or what is not 0 to 4" */
    private static void spanNoSuchSpan() {
        for (Twins.Ring ring : new Twins.Ring[] {TrolleyGang::new, FULL}) {
            for (int wrong : new int[] {-1, 24, Twins.LEAST, Twins.GREATEST}) {
                for (int what : new int[] {-1, 0, 4, 5}) {
                    Twins.refusedIndex("span(" + wrong + ", " + what + ")", ring, x -> x.span(wrong, what));
                }
            }
        }
    }

    /** "Throws IndexOutOfBoundsException if span is not 0 to 23, or what is not 0 to 4" */
    private static void spanWhat() {
        for (int wrong : new int[] {-1, 5, Twins.LEAST, Twins.GREATEST}) {
            Twins.refusedIndex("span(0, " + wrong + ")", FULL, x -> x.span(0, wrong));
            Twins.refusedIndex("span(23, " + wrong + ")", FULL, x -> x.span(23, wrong));
        }
        for (int what = 0; what <= 4; what++) {
            int taken = what;
            Twins.changesNothing("span(0, " + what + ")", FULL, x -> x.span(0, taken));
            Twins.changesNothing("span(23, " + what + ")", FULL, x -> x.span(23, taken));
        }
    }

    /** "0 by how much it is worn", "2 1 if it is down, else 0" */
    private static void spanDown() {
        for (int span : new int[] {0, 23}) {
            int[] worn = {0, 1, 24, 25, 99, 100};
            for (int by : worn) {
                TrolleyGang x = Rings.worn(span, by);
                Check.due("worn by " + by, x.span(span, 0), by);
                Check.due("down, worn by " + by, x.span(span, 2), by == 100 ? 1 : 0);
                Check.due("spans that are down, worn by " + by, x.count(5), by == 100 ? 1 : 0);
            }
        }
    }

    /** "3 buses there": none to all six, those that are parked too */
    private static void spanBuses() {
        for (int span : new int[] {0, 23}) {
            TrolleyGang x = new TrolleyGang();
            for (int number = 0; number < 6; number++) {
                Check.due("buses at " + span, x.span(span, 3), number);
                x.bus(span, number % 2 == 0);
            }
            Check.due("six buses at " + span, x.span(span, 3), 6);
            Check.due("buses at the next one", x.span((span + 1) % 24, 3), 0);
            for (int number = 0; number < 5; number++) {
                x.park(number);
            }
            Check.due("six buses, five of them parked", x.span(span, 3), 6);
            x.pass(1);
            Check.due("five buses parked", x.span(span, 3), 5);
            Check.due("the sixth one", x.span((span + 3) % 24, 3), 1);
        }
    }

    /** "4 the place of its order in the list, from 0, -1 without one" */
    private static void spanPlace() {
        TrolleyGang x = new TrolleyGang();
        int[] spans = {23, 0, 22, 1, 11, 12};
        for (int span : spans) {
            Check.due("place of " + span + " without an order", x.span(span, 4), -1);
            x.order(span);
        }
        for (int place = 0; place < 6; place++) {
            Check.due("place of " + spans[place], x.span(spans[place], 4), place);
        }
        Check.due("place of 2", x.span(2, 4), -1);
        x.cancel(23);
        Check.due("place of 23 behind cancel", x.span(23, 4), -1);
        Check.due("place of 0 behind cancel(23)", x.span(0, 4), 0);
        Check.due("place of 12 behind cancel(23)", x.span(12, 4), 4);
        x.pass(1);
        Check.due("place of 0 that is done", x.span(0, 4), -1);
        Check.due("place of 22 behind it", x.span(22, 4), 0);
    }
}
