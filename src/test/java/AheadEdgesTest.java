/** Promises 14 to 17, each sentence that names a boundary case. */
final class AheadEdgesTest {
    private static final Twins.Ring FULL = () -> Rings.busy(6, 6);
    private static final Twins.Ring[] RINGS = {TrolleyGang::new, FULL};

    public static void main(String[] args) {
        passRefuses();
        passTakes();
        passAnswers();
        fallsRefuses();
        fallsNow();
        fallsAtMost96();
        fallsAtAnySpan();
        fallsWithOrders();
        foreseeRefusesHours();
        foreseeRefusesWhat();
        foreseeBothWrong();
        foreseeTakes();
        foreseeLessThanNothing();
        adviseRefuses();
        adviseTakes();
        adviseFortyEighthHour();
        adviseOfSeveral();
        adviseNone();
        adviseWithoutWorksDone();
        adviseOnlyOrder();
        looksChangeNothing();
        Check.end("AheadEdgesTest");
    }

    /** "Throws IllegalArgumentException if hours is not 1 to 72" */
    private static void passRefuses() {
        for (Twins.Ring ring : RINGS) {
            for (int wrong : new int[] {0, -1, 73, Twins.LEAST, Twins.GREATEST}) {
                Twins.refusedArgument("pass(" + wrong + ")", ring, x -> x.pass(wrong));
            }
        }
    }

    /** "hours: how many", 1 to 72: all at once are as many one by one */
    private static void passTakes() {
        for (int hours : new int[] {1, 2, 71, 72}) {
            TrolleyGang x = Rings.busy(5, 6);
            TrolleyGang y = Rings.busy(5, 6);
            int before = x.count(0);
            int coins = x.pass(hours);
            int sum = 0;
            for (int hour = 0; hour < hours; hour++) {
                sum += y.pass(1);
            }
            Check.due("the hour behind pass(" + hours + ")", x.count(0), before + hours);
            Check.due("coins of pass(" + hours + ")", coins, sum);
            Check.due("digest() behind pass(" + hours + ")", x.digest(), y.digest());
        }
    }

    /** "Returns by how many coins there are more then (less than 0, if less)." */
    private static void passAnswers() {
        TrolleyGang x = new TrolleyGang();
        Check.due("nothing earned", x.pass(72), 0);
        x.order(1);
        Check.due("less", x.pass(1), -2);
        Check.due("as many as before", x.pass(1), 0);
        x.bus(0, false);
        Check.due("more, by day and by night", x.pass(24), 14 * 6 + 10 * 9);
        Check.due("all coins", x.count(2), -2 + 14 * 6 + 10 * 9);
        x.setFare(true, 0);
        x.setFare(false, 0);
        x.order(20);
        Check.due("less while there are coins", x.pass(2), -2);
    }

    /** "Throws IndexOutOfBoundsException if span is not 0 to 23" */
    private static void fallsRefuses() {
        for (Twins.Ring ring : RINGS) {
            for (int wrong : new int[] {-1, 24, Twins.LEAST, Twins.GREATEST}) {
                Twins.refusedIndex("falls(" + wrong + ")", ring, x -> x.falls(wrong));
            }
        }
    }

    /** "0 if it is now" */
    private static void fallsNow() {
        for (int span : new int[] {0, 11, 23}) {
            TrolleyGang x = Rings.worn(span, 100);
            Check.due("falls(" + span + ") while down", x.falls(span), 0);
            Check.due("falls of the next one", x.falls((span + 1) % 24), -1);
            TrolleyGang y = Rings.worn(span, 99);
            y.setSwan(0, span);
            Check.due("falls(" + span + "), worn by 99, in this hour", y.falls(span), 1);
            y.pass(1);
            Check.due("falls(" + span + ") an hour later", y.falls(span), 0);
        }
        // a work that is done already does not count against it
        TrolleyGang z = Rings.worn(0, 100);
        z.order(0);
        z.pass(1);
        Check.due("falls(0) while down, put up in this hour", z.falls(0), 0);
        z.pass(1);
        Check.due("falls(0) behind it", z.falls(0), -1);
    }

    /** "at most 96; -1 if not by then" */
    private static void fallsAtMost96() {
        // bus 1 comes to the span in each eighth hour from now on, and wears it by 1
        for (int span : new int[] {0, 23}) {
            TrolleyGang x = Rings.worn(span, 87);
            x.bus((span + 24 - 22) % 24, false);
            // twelve laps wear it by 12, in the hour 95, behind 96 hours
            Check.due("worn by 87, falls(" + span + ")", x.falls(span), -1);
            x.pass(7);
            Check.due("worn by 87, behind 97 hours", x.falls(span), -1);
            x.pass(1);
            Check.due("worn by 88", x.span(span, 0), 88);
            Check.due("worn by 88, falls(" + span + ")", x.falls(span), 96);
            x.order((span + 5) % 24);
            Check.due("worn by 88, an order elsewhere", x.falls(span), 96);
            x.pass(1);
            Check.due("an hour later", x.falls(span), 95);
            Rings.pass(x, 94);
            Check.due("an hour ahead", x.falls(span), 1);
            x.pass(1);
            Check.due("now", x.falls(span), 0);
        }
    }

    /** "span: a span": the first and the last one, in each hour of the table of swans */
    private static void fallsAtAnySpan() {
        for (int span = 0; span < 24; span++) {
            for (int hour = 0; hour < 12; hour++) {
                TrolleyGang x = new TrolleyGang();
                x.setSwan(hour, span);
                Check.due("falls(" + span + ") by swans of the hour " + hour, x.falls(span), hour + 37);
            }
        }
    }

    /** "if nothing is done": no call is made, and the gang goes on with its orders */
    private static void fallsWithOrders() {
        TrolleyGang x = Rings.worn(0, 74);
        x.setSwan(0, 0);
        x.setSwan(1, 0);
        Check.due("falls(0) without an order", x.falls(0), 2);
        x.order(0);
        // 69, 64, 34 and 4 behind four works; 29 and 54 by the swans of the hours 12 and 13, 79 and 100 of 24 and 25
        Check.due("falls(0) with an order", x.falls(0), 26);
        x.pass(25);
        Check.due("falls(0) an hour ahead", x.falls(0), 1);
    }

    /** "Throws IllegalArgumentException if hours is not 1 to 72" */
    private static void foreseeRefusesHours() {
        for (Twins.Ring ring : RINGS) {
            for (int wrong : new int[] {0, -1, 73, Twins.LEAST, Twins.GREATEST}) {
                Twins.refusedArgument("foresee(" + wrong + ", 2)", ring, x -> x.foresee(wrong, 2));
                Twins.refusedArgument("foresee(" + wrong + ", 8)", ring, x -> x.foresee(wrong, 8));
            }
        }
    }

    /** "Throws IndexOutOfBoundsException if what is none of these" */
    private static void foreseeRefusesWhat() {
        for (Twins.Ring ring : RINGS) {
            for (int wrong : new int[] {-1, 0, 1, 3, 4, 9, Twins.LEAST, Twins.GREATEST}) {
                Twins.refusedIndex("foresee(1, " + wrong + ")", ring, x -> x.foresee(1, wrong));
                Twins.refusedIndex("foresee(72, " + wrong + ")", ring, x -> x.foresee(72, wrong));
            }
        }
    }

    /** "If several exceptions apply, the one that is named first is thrown." */
    private static void foreseeBothWrong() {
        for (int hours : new int[] {0, 73}) {
            for (int what : new int[] {-1, 1, 3, 9}) {
                Twins.refusedArgument("foresee(" + hours + ", " + what + ")", FULL, x -> x.foresee(hours, what));
            }
        }
    }

    /** "hours: how many, 1 to 72", "what: 2, 5, 6, 7 or 8 as count() has it" */
    private static void foreseeTakes() {
        for (int many : new int[] {1, 71, 72}) {
            for (int what : new int[] {2, 5, 6, 7, 8}) {
                TrolleyGang x = Rings.busy(6, 6);
                TrolleyGang y = Rings.busy(6, 6);
                y.pass(many);
                Check.due("foresee(" + many + ", " + what + ")", x.foresee(many, what), y.count(what));
                Check.due("new: foresee(" + many + ", " + what + ")", new TrolleyGang().foresee(many, what), 0);
            }
        }
        // each hour counts, to the last one
        TrolleyGang z = Rings.allDown();
        for (int number = 0; number < 6; number++) {
            z.bus(0, true);
        }
        for (int hours = 1; hours <= 72; hours++) {
            Check.due("foresee(" + hours + ", 8)", z.foresee(hours, 8), 6 * hours);
        }
    }

    /** "2 .. as count() has it": coins can be less than 0 */
    private static void foreseeLessThanNothing() {
        TrolleyGang x = Rings.worn(0, 99);
        x.order(0);
        Check.due("foresee(1, 2)", x.foresee(1, 2), -2);
        Check.due("foresee(3, 2)", x.foresee(3, 2), -6);
        Check.due("foresee(72, 2)", x.foresee(72, 2), -6);
    }

    /** "Throws IllegalArgumentException if hours is not 1 to 48" */
    private static void adviseRefuses() {
        for (Twins.Ring ring : RINGS) {
            for (int wrong : new int[] {0, -1, 49, 72, Twins.LEAST, Twins.GREATEST}) {
                Twins.refusedArgument("advise(" + wrong + ")", ring, x -> x.advise(wrong));
            }
        }
    }

    /** Hours of 1 and of 48 are taken. */
    private static void adviseTakes() {
        Check.due("new: advise(1)", new TrolleyGang().advise(1), -1);
        Check.due("new: advise(48)", new TrolleyGang().advise(48), -1);
        // one hour is enough: a work keeps a span up that bus 2 would find down
        for (int span : new int[] {0, 23}) {
            TrolleyGang x = downBehindTwoHours(span);
            Check.due("advise(1)", x.advise(1), -1);
            Check.due("advise(2)", x.advise(2), span);
        }
    }

    /** The span is worn by 99, the gang can be there in this hour, and a swan flies there in the next one. */
    private static TrolleyGang downBehindTwoHours(int span) {
        TrolleyGang x = Rings.worn(span, 99);
        x.setSwan(1, span);
        // it comes in this hour to the span by two spans ahead of it
        x.bus((span + 24 - 5) % 24, true);
        return x;
    }

    /** "so that there are the most coins behind so many hours": the forty-eighth counts, the one behind it does not */
    private static void adviseFortyEighthHour() {
        for (int span : new int[] {0, 1, 23}) {
            // bus 1 comes to the span in each eighth hour, at the last time in the hour 47, and would bring it down
            TrolleyGang x = Rings.worn(span, 94);
            x.bus((span + 24 - 22) % 24, false);
            x.setFare(true, 4);
            Check.due("falls(" + span + ")", x.falls(span), 48);
            // two fares of 4 more for three works
            Check.due("advise(48)", x.advise(48), span);
            Check.due("advise(47)", x.advise(47), -1);
            // "-1 if by none there are more": two fares of 3 are as much as three works
            x.setFare(true, 3);
            Check.due("advise(48) for as many coins", x.advise(48), -1);
            TrolleyGang y = Rings.worn(span, 93);
            y.bus((span + 24 - 22) % 24, false);
            y.setFare(true, 9);
            Check.due("advise(48), down in the hour 55", y.advise(48), -1);
        }
    }

    /** "Returns this span, of several the least" */
    private static void adviseOfSeveral() {
        int[][] pairs = {{2, 22}, {0, 20}, {4, 23}};
        for (int[] pair : pairs) {
            Check.due("by both as many coins", coinsByOrder(pair, pair[0]), coinsByOrder(pair, pair[1]));
            TrolleyGang x = betweenTwoDown(pair);
            Check.due("advise(3), both as good", x.advise(3), pair[0]);
            x.bus((pair[1] + 23) % 24, true);
            Check.due("advise(3), the greater one better", x.advise(3), pair[1]);
        }
    }

    /** A bus is stuck ahead of each of two spans that are down, and the gang can be at both in an hour. */
    private static TrolleyGang betweenTwoDown(int[] pair) {
        TrolleyGang x = Rings.withDown(pair[0], pair[1]);
        x.order((pair[0] + pair[1] + 24) / 2 % 24);
        x.pass(4);
        x.bus((pair[1] + 23) % 24, true);
        x.bus((pair[0] + 23) % 24, true);
        return x;
    }

    private static int coinsByOrder(int[] pair, int span) {
        TrolleyGang x = betweenTwoDown(pair);
        x.order(span);
        return x.pass(3);
    }

    /** "-1 if by none there are more than without any order" */
    private static void adviseNone() {
        // by all there are less
        Check.due("nothing to mend", Rings.busy(0, 0).advise(48), -1);
        // the only bus is parked
        TrolleyGang x = Rings.withDown(2);
        x.bus(1, true);
        x.park(0);
        Check.due("no bus that runs", x.advise(48), -1);
        x.park(0);
        Check.due("a bus that runs", x.advise(48), 2);
        // "than without any order", not than with those that are there: these cost more than they bring
        TrolleyGang y = new TrolleyGang();
        for (int span = 0; span < 6; span++) {
            y.order(span);
        }
        Check.due("orders that bring nothing", y.advise(48), -1);
    }

    /** "(with no works done at it)" */
    private static void adviseWithoutWorksDone() {
        // worn by 100, a bus ahead of it: up behind two hours, three fares by night in the third
        TrolleyGang x = Rings.worn(0, 100);
        x.bus(23, true);
        x.order(0);
        x.pass(1);
        Check.due("works done at it", x.gang(3), 1);
        Check.due("up behind an hour with the order that is there", x.foresee(1, 5), 0);
        Check.due("advise(2)", x.advise(2), -1);
        Check.due("advise(3)", x.advise(3), 0);
        Check.due("works done at it still", x.gang(3), 1);
    }

    /** "have its only order now": a full list of others does not hinder it */
    private static void adviseOnlyOrder() {
        TrolleyGang x = Rings.worn(0, 100);
        x.bus(23, true);
        for (int span = 10; span < 16; span++) {
            x.order(span);
        }
        Check.due("advise(3), six orders elsewhere", x.advise(3), 0);
        Check.due("orders", x.gang(2), 6);
        TrolleyGang y = Rings.worn(0, 100);
        y.bus(23, true);
        y.order(0);
        Check.due("advise(3), the best one is there", y.advise(3), 0);
    }

    /** "(nothing is changed)" */
    private static void looksChangeNothing() {
        Twins.Ring[] rings = {TrolleyGang::new, FULL, () -> Rings.busy(3, 0), () -> downBehindTwoHours(0)};
        for (Twins.Ring ring : rings) {
            for (int span : new int[] {0, 12, 23}) {
                Twins.changesNothing("falls(" + span + ")", ring, x -> x.falls(span));
            }
            for (int what : new int[] {2, 5, 6, 7, 8}) {
                Twins.changesNothing("foresee(72, " + what + ")", ring, x -> x.foresee(72, what));
            }
            Twins.changesNothing("advise(1)", ring, x -> x.advise(1));
            Twins.changesNothing("advise(48)", ring, x -> x.advise(48));
        }
    }
}
