/** Rings in states that several tests want. */
final class Rings {
    private Rings() { }

    /** Swans at this span in the next hours, that many, then none; the hours go by. */
    static void swans(TrolleyGang x, int span, int hours) {
        for (int k = 0; k < hours; k++) {
            x.setSwan(x.count(0) % 12, span);
            x.pass(1);
        }
        for (int hour = 0; hour < 12; hour++) {
            x.setSwan(hour, -1);
        }
    }

    /** No buses; this span is down; the hour is 4. */
    static TrolleyGang withDown(int span) {
        TrolleyGang x = new TrolleyGang();
        swans(x, span, 4);
        return x;
    }

    /** No buses; these spans are down; the hour is 8. */
    static TrolleyGang withDown(int one, int other) {
        TrolleyGang x = withDown(one);
        swans(x, other, 4);
        return x;
    }

    /** The hour is 3, frost is 9 at each span, no cold comes any more, and span 2 is worn by 75. */
    static TrolleyGang frozenAndWorn() {
        TrolleyGang x = new TrolleyGang();
        for (int hour = 0; hour < 3; hour++) {
            x.setCold(hour, 3);
        }
        swans(x, 2, 3);
        for (int hour = 0; hour < 3; hour++) {
            x.setCold(hour, 0);
        }
        return x;
    }

    /**
     * The hour is 4, span 2 is worn by 65, and the gang did one work there while it was up; a swan
     * there and the two buses that come there next, by 5 each, bring it down in one hour.
     */
    static TrolleyGang withOneWorkWhileUp() {
        TrolleyGang x = frozenAndWorn();
        for (int number = 0; number < 6; number++) {
            x.bus(1, false);
        }
        x.park(4);
        x.park(5);
        x.order(2);
        // 75 and four buses by 5 each, less 30
        x.pass(1);
        for (int number = 0; number < 6; number++) {
            x.park(number);
        }
        return x;
    }

    /** Hours go by, more than 72 too. */
    static void pass(TrolleyGang x, int hours) {
        int left = hours;
        while (left > 0) {
            x.pass(Math.min(72, left));
            left -= Math.min(72, left);
        }
    }

    /**
     * The hour is a multiple of 24, there is no frost, the coins are 0, and the span is worn by just so much
     * (by 100: it is down). Bus 0, without a scraper, is parked twelve spans on. The other spans are worn by
     * what is left of it behind whole swans.
     */
    static TrolleyGang worn(int span, int by) {
        TrolleyGang x = new TrolleyGang();
        x.setFare(true, 0);
        x.setFare(false, 0);
        swans(x, span, by / 25);
        x.bus((span + 12) % 24, false);
        // a lap lasts eight hours and wears each span by 1
        pass(x, by % 25 * 8);
        x.park(0);
        pass(x, (24 - x.count(0) % 24) % 24);
        x.setFare(true, 3);
        x.setFare(false, 2);
        return x;
    }

    /** As worn(), with so much frost at each span, and three hours later: it is night for three hours more. */
    static TrolleyGang wornAndFrozen(int span, int by, int frost) {
        TrolleyGang x = worn(span, by);
        for (int hour = 0; hour < 3; hour++) {
            x.setCold(hour, Math.max(0, Math.min(3, frost - 3 * hour)));
        }
        x.pass(3);
        for (int hour = 0; hour < 3; hour++) {
            x.setCold(hour, 0);
        }
        return x;
    }

    /** All spans are down, there are no buses, and the hour is 96. */
    static TrolleyGang allDown() {
        TrolleyGang x = new TrolleyGang();
        for (int span = 0; span < 24; span++) {
            for (int hour = 0; hour < 4; hour++) {
                x.setSwan((4 * span + hour) % 12, span);
            }
            x.pass(4);
        }
        for (int hour = 0; hour < 12; hour++) {
            x.setSwan(hour, -1);
        }
        return x;
    }

    /**
     * A ring in which nothing is as in a new one: so many buses, those with even numbers with a scraper, the
     * last one parked, so many orders, and one work done at the first of them, at span 12, which is down.
     */
    static TrolleyGang busy(int buses, int orders) {
        TrolleyGang x = withDown(12);
        int[] spans = {12, 3, 23, 0, 7, 18};
        for (int place = 0; place < orders; place++) {
            x.order(spans[place]);
        }
        for (int hour = 0; hour < 8; hour++) {
            x.setCold(hour, 1 + hour % 3);
        }
        for (int hour = 0; hour < 12; hour++) {
            x.setSwan(hour, hour % 3 == 0 ? 23 : 2 * hour);
        }
        x.setFare(false, 4);
        x.setFare(true, 7);
        for (int number = 0; number < buses; number++) {
            x.bus(5 * number % 24, number % 2 == 0);
        }
        if (buses > 0) {
            x.park(buses - 1);
        }
        x.pass(3);
        return x;
    }
}
