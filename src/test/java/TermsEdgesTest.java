/** 'Terms' without the five steps of an hour (HourEdgesTest): each sentence that names a boundary case. */
final class TermsEdgesTest {
    public static void main(String[] args) {
        hours();
        night();
        ring();
        wornAtFirstAndAtMost();
        wornByBuses();
        frostAtFirstAndAtMost();
        cold();
        swans();
        buses();
        fares();
        gang();
        coins();
        throwsChangeNothing();
        lastCall();
        Check.end("TermsEdgesTest");
    }

    /** "Time is told in hours, from 0; a day has 24." */
    private static void hours() {
        TrolleyGang x = new TrolleyGang();
        Check.due("the first hour", x.count(0), 0);
        x.pass(23);
        Check.due("the last hour of the day", x.count(0), 23);
        x.pass(1);
        Check.due("the hour behind a day", x.count(0), 24);
        x.pass(24);
        Check.due("the hour behind two days", x.count(0), 48);
    }

    /** "It is night in the hours 0 to 5 and 20 to 23 of each day." */
    private static void night() {
        TrolleyGang x = new TrolleyGang();
        x.bus(0, true);
        for (int hour = 0; hour < 72; hour++) {
            int ofDay = hour - hour / 24 * 24;
            boolean isNight = ofDay == 0 || ofDay == 5 || ofDay > 0 && ofDay < 5
                    || ofDay == 20 || ofDay == 23 || ofDay > 20 && ofDay < 23;
            Check.due("night in the hour " + hour, x.count(1), isNight ? 1 : 0);
            Check.due("fares in the hour " + hour, x.pass(1), isNight ? 9 : 6);
        }
    }

    /** "There are 24, 0 to 23; behind 23 comes 0 again." */
    private static void ring() {
        for (int at : new int[] {20, 21, 22, 23}) {
            TrolleyGang x = new TrolleyGang();
            x.bus(at, false);
            x.pass(1);
            Check.due("three spans on from " + at, x.told(0, 0), at == 20 ? 23 : at - 21);
        }
        TrolleyGang y = Rings.withDown(0);
        y.bus(23, false);
        y.pass(1);
        Check.due("stuck at 23 ahead of 0", y.told(0, 0), 23);
        Check.due("an hour in which it is stuck", y.told(0, 5), 1);
        TrolleyGang z = Rings.withDown(23);
        z.bus(22, false);
        z.bus(23, false);
        z.pass(1);
        Check.due("stuck at 22 ahead of 23", z.told(0, 0), 22);
        Check.due("from 23 on", z.told(1, 0), 2);
        TrolleyGang w = new TrolleyGang();
        w.order(23);
        w.pass(1);
        Check.due("the gang from 0 down to 23", w.gang(0), 23);
        w.order(1);
        w.pass(1);
        Check.due("the gang from 23 up to 1", w.gang(0), 1);
    }

    /** "Each is worn by 0 (at first) to 100", "is up (at first) or down; it comes down as it is worn by 100" */
    private static void wornAtFirstAndAtMost() {
        TrolleyGang x = new TrolleyGang();
        for (int span = 0; span < 24; span++) {
            Check.due("worn at first, " + span, x.span(span, 0), 0);
            Check.due("down at first, " + span, x.span(span, 2), 0);
        }
        // by a swan: 74, 75 and 76 and 25 more
        int[] ahead = {74, 75, 76};
        int[] behind = {99, 100, 100};
        for (int k = 0; k < 3; k++) {
            TrolleyGang y = Rings.worn(0, ahead[k]);
            y.setSwan(0, 0);
            y.pass(1);
            Check.due("worn by " + ahead[k] + ", and a swan", y.span(0, 0), behind[k]);
            Check.due("down, worn by " + ahead[k] + ", and a swan", y.span(0, 2), behind[k] == 100 ? 1 : 0);
        }
    }

    /** "it comes down as it is worn by 100": by a bus, just so, or by more */
    private static void wornByBuses() {
        // worn ahead, frost, has a scraper, worn behind
        int[][] cases = {
            {97, 0, 1, 99}, {98, 0, 1, 100}, {99, 0, 1, 100}, {97, 9, 1, 99}, {98, 9, 1, 100}, {99, 9, 1, 100},
            {98, 0, 0, 99}, {99, 0, 0, 100}, {98, 1, 0, 99}, {99, 1, 0, 100},
            {97, 2, 0, 99}, {98, 2, 0, 100}, {99, 2, 0, 100},
            {94, 9, 0, 99}, {95, 9, 0, 100}, {96, 9, 0, 100}, {99, 9, 0, 100}, {95, 8, 0, 100}, {95, 7, 0, 99},
        };
        for (int[] one : cases) {
            TrolleyGang x = Rings.wornAndFrozen(0, one[0], one[1]);
            x.bus(23, one[2] == 1);
            x.pass(1);
            String what = "worn by " + one[0] + ", frost " + one[1] + ", scraper " + one[2] + ": ";
            Check.due(what + "worn", x.span(0, 0), one[3]);
            Check.due(what + "down", x.span(0, 2), one[3] == 100 ? 1 : 0);
            Check.due(what + "the bus", x.told(1, 0), one[3] == 100 ? 0 : 2);
        }
    }

    /** "has frost, 0 (at first) to 9" */
    private static void frostAtFirstAndAtMost() {
        TrolleyGang x = new TrolleyGang();
        for (int span = 0; span < 24; span++) {
            Check.due("frost at first, " + span, x.span(span, 1), 0);
        }
        for (int hour = 0; hour < 8; hour++) {
            x.setCold(hour, 3);
        }
        x.pass(6);
        for (int span = 0; span < 24; span++) {
            Check.due("frost behind a night, " + span, x.span(span, 1), 9);
        }
        x.pass(14);
        for (int span = 0; span < 24; span++) {
            Check.due("frost behind a day, " + span, x.span(span, 1), 0);
        }
    }

    /** "A table tells for each of 8 hours (the hour by the remainder of 8) how much frost comes, 0 (at first) to 3." */
    private static void cold() {
        TrolleyGang x = new TrolleyGang();
        for (int hour = 0; hour < 8; hour++) {
            Check.due("cold at first, " + hour, x.setCold(hour, 0), 0);
        }
        int[] hours = {0, 1, 2, 3, 4, 5, 20, 21, 22, 23, 24, 25, 26, 27, 28, 29};
        for (int hour : hours) {
            TrolleyGang y = new TrolleyGang();
            Rings.pass(y, hour);
            y.setCold(hour % 8, 3);
            y.pass(1);
            Check.due("frost by the hour " + hour, y.span(0, 1), 3);
            TrolleyGang z = new TrolleyGang();
            Rings.pass(z, hour);
            for (int other = 0; other < 8; other++) {
                z.setCold(other, other == hour % 8 ? 0 : 3);
            }
            z.pass(1);
            Check.due("no frost by the hour " + hour, z.span(0, 1), 0);
        }
    }

    /** "for each of 12 hours (the hour by the remainder of 12) at which span a swan flies .., or -1 for none (at first)" */
    private static void swans() {
        TrolleyGang x = new TrolleyGang();
        for (int hour = 0; hour < 12; hour++) {
            Check.due("swan at first, " + hour, x.setSwan(hour, -1), -1);
        }
        x.pass(24);
        Check.due("worn without swans", x.count(6), 0);
        TrolleyGang y = new TrolleyGang();
        for (int hour = 0; hour < 12; hour++) {
            y.setSwan(hour, 2 * hour + 1);
        }
        for (int hour = 0; hour < 36; hour++) {
            y.pass(1);
            Check.due("worn by the swan of the hour " + hour, y.span(2 * (hour % 12) + 1, 0), 25 * (hour / 12 + 1));
            Check.due("worn by all swans to the hour " + hour, y.count(6), 25 * (hour + 1));
        }
    }

    /** "There are at most 6, numbered from 0 in the order of their coming; .. and runs (at first) or is parked." */
    private static void buses() {
        TrolleyGang x = new TrolleyGang();
        Check.due("none at first", x.count(3), 0);
        for (int number = 0; number < 6; number++) {
            Check.due("the number of bus " + number, x.bus(23 - number, false), number);
            Check.due("runs at first", x.told(number, 2), 1);
        }
        for (int number = 0; number < 6; number++) {
            Check.due("the span of bus " + number, x.told(number, 0), 23 - number);
        }
        Twins.refusedState("a seventh", () -> Rings.busy(6, 0), ring -> ring.bus(0, false));
    }

    /** "One by day, 2 coins at first, and one by night, 3 coins at first, each 0 to 9." */
    private static void fares() {
        TrolleyGang x = new TrolleyGang();
        Check.due("by day at first", x.setFare(false, 2), 2);
        Check.due("by night at first", x.setFare(true, 3), 3);
        x.bus(0, true);
        Check.due("an hour by night", x.pass(1), 9);
        x.pass(5);
        Check.due("an hour by day", x.pass(1), 6);
    }

    /** "It is at a span (0, at first), and has a list of at most 6 orders (none, at first), each a span, none twice" */
    private static void gang() {
        TrolleyGang x = new TrolleyGang();
        Check.due("the gang at first", x.gang(0), 0);
        Check.due("orders at first", x.gang(2), 0);
        Check.due("works at first", x.gang(3), 0);
        for (int place = 0; place < 6; place++) {
            Check.due("order " + place, x.order(4 * place), place + 1);
        }
        Twins.refusedState("a seventh", () -> Rings.busy(0, 6), ring -> ring.order(1));
        Twins.refusedState("one twice", () -> Rings.busy(0, 1), ring -> ring.order(12));
    }

    /** "Coins. 0, at first; they can become less than 0." */
    private static void coins() {
        TrolleyGang x = new TrolleyGang();
        Check.due("coins at first", x.count(2), 0);
        x.order(0);
        x.order(1);
        Check.due("a work", x.pass(1), -2);
        Check.due("coins behind a work", x.count(2), -2);
        x.pass(1);
        Check.due("coins behind two works", x.count(2), -4);
        Check.due("foreseen", x.foresee(1, 2), -4);
        x.bus(0, true);
        x.pass(1);
        Check.due("coins behind fares", x.count(2), 5);
    }

    /** "A method that throws an exception changes nothing.": in a ring behind one refusal of each kind */
    private static void throwsChangeNothing() {
        Twins.Call[] refused = {
            x -> x.setCold(8, 0), x -> x.setCold(0, 4), x -> x.setSwan(12, 0), x -> x.setSwan(0, 24),
            x -> x.setFare(true, 10), x -> x.bus(24, true), x -> x.bus(0, true), x -> x.fit(0, 6),
            x -> x.fit(1, 3), x -> x.park(6), x -> x.told(6, 0), x -> x.told(0, 7), x -> x.span(24, 0),
            x -> x.span(0, 5), x -> x.order(24), x -> x.order(1), x -> x.order(12), x -> x.cancel(24),
            x -> x.cancel(1), x -> x.gang(7), x -> x.count(9), x -> x.pass(0), x -> x.pass(73), x -> x.falls(24),
            x -> x.foresee(0, 2), x -> x.foresee(1, 3), x -> x.advise(0), x -> x.advise(49),
        };
        Twins.changesNothing("all refusals, one after the other", () -> Rings.busy(6, 6), x -> {
            int thrown = 0;
            for (Twins.Call call : refused) {
                try {
                    call.on(x);
                } catch (IndexOutOfBoundsException | IllegalArgumentException | IllegalStateException e) {
                    thrown++;
                }
            }
            Check.due("refusals", thrown, refused.length);
        });
    }

    /** "An object is used for at most 512 calls after it has been made": the last one is answered, too */
    private static void lastCall() {
        TrolleyGang x = new TrolleyGang();
        x.setFare(true, 9);
        x.setFare(false, 9);
        for (int number = 0; number < 6; number++) {
            x.bus(4 * number, true);
        }
        int coins = 0;
        for (int call = 8; call < 510; call++) {
            coins += x.pass(72);
        }
        Check.due("the 511th call", x.count(2), coins);
        Check.due("the 512th call", x.count(0), 502 * 72);
    }
}
