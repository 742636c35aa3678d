/** Rings in states that several tests want. */
final class Rings {
    private Rings() { }

    /** Swans at this span in the next hours, that many, then none; the hours go by. */
    static void swans(TrolleyGang x, int span, int hours) {
        for (int k = 0; k < hours; k++) {
            x.setSwan(x.count(0) % 12, span);
            x.pass(1);
        }
        for (int hour = 0; hour < 12; hour++) {
            x.setSwan(hour, -1);
        }
    }

    /** No buses; this span is down; the hour is 4. */
    static TrolleyGang withDown(int span) {
        TrolleyGang x = new TrolleyGang();
        swans(x, span, 4);
        return x;
    }

    /** No buses; these spans are down; the hour is 8. */
    static TrolleyGang withDown(int one, int other) {
        TrolleyGang x = withDown(one);
        swans(x, other, 4);
        return x;
    }

    /** The hour is 3, frost is 9 at each span, no cold comes any more, and span 2 is worn by 75. */
    static TrolleyGang frozenAndWorn() {
        TrolleyGang x = new TrolleyGang();
        for (int hour = 0; hour < 3; hour++) {
            x.setCold(hour, 3);
        }
        swans(x, 2, 3);
        for (int hour = 0; hour < 3; hour++) {
            x.setCold(hour, 0);
        }
        return x;
    }

    /**
     * The hour is 4, span 2 is worn by 65, and the gang did one work there while it was up; a swan
     * there and the two buses that come there next, by 5 each, bring it down in one hour.
     */
    static TrolleyGang withOneWorkWhileUp() {
        TrolleyGang x = frozenAndWorn();
        for (int number = 0; number < 6; number++) {
            x.bus(1, false);
        }
        x.park(4);
        x.park(5);
        x.order(2);
        // 75 and four buses by 5 each, less 30
        x.pass(1);
        for (int number = 0; number < 6; number++) {
            x.park(number);
        }
        return x;
    }
}
