/** The five steps of an hour in 'Terms': each sentence that names a boundary case. */
final class HourEdgesTest {
    public static void main(String[] args) {
        frostByNight();
        frostAheadOfBuses();
        frostByDay();
        frostAtDawnAndDusk();
        swanAtSpanThatIsUp();
        swanAtSpanThatIsDown();
        swanAndWorkInOneHour();
        busesThatRun();
        busesByNumbers();
        upToThreeSpans();
        nextSpanIsDown();
        ownSpanIsDown();
        allSpansAreDown();
        fareOfThisHour();
        scraper();
        withoutScraper();
        comesDownUnderIt();
        gangWithoutOrder();
        gangsWay();
        nothingHindersTheGang();
        workHoweverWorn();
        workWhileUp();
        workWhileDown();
        laterWork();
        nextOrder();
        allOrders();
        hourIsGreater();
        Check.end("HourEdgesTest");
    }

    /** "by night each span has as much more as the table tells (at most 9)" */
    private static void frostByNight() {
        for (int frost = 0; frost <= 9; frost++) {
            for (int cold = 0; cold <= 3; cold++) {
                TrolleyGang x = Rings.wornAndFrozen(5, 100, frost);
                x.setCold(3, cold);
                x.pass(1);
                int due = Math.min(9, frost + cold);
                for (int span : new int[] {0, 5, 23}) {
                    Check.due("frost " + frost + " and " + cold + " at " + span, x.span(span, 1), due);
                }
                Check.due("all frost", x.count(7), 24 * due);
            }
        }
    }

    /** The steps follow one another: the frost of an hour is there ahead of its buses, and 2 less by day. */
    private static void frostAheadOfBuses() {
        TrolleyGang x = Rings.wornAndFrozen(12, 100, 0);
        x.setCold(3, 3);
        x.bus(0, false);
        x.pass(1);
        Check.due("worn by the frost of this hour", x.span(1, 0), 2);
        TrolleyGang y = Rings.wornAndFrozen(12, 100, 2);
        y.pass(3);
        y.bus(0, false);
        y.pass(1);
        Check.due("worn by the frost that is left by day", y.span(1, 0), 1);
    }

    /** "by day each one 2 less (at least 0)" */
    private static void frostByDay() {
        for (int frost = 0; frost <= 9; frost++) {
            TrolleyGang x = Rings.wornAndFrozen(5, 100, frost);
            x.pass(3);
            x.setCold(6, 3);
            x.setCold(7, 3);
            int due = frost;
            for (int hour = 6; hour < 12; hour++) {
                x.pass(1);
                due = due >= 2 ? due - 2 : 0;
                for (int span : new int[] {0, 5, 23}) {
                    Check.due("frost " + frost + " behind the hour " + hour + " at " + span, x.span(span, 1), due);
                }
                Check.due("all frost", x.count(7), 24 * due);
            }
        }
    }

    /** "It is night in the hours 0 to 5 and 20 to 23": the last and the first hour of frost */
    private static void frostAtDawnAndDusk() {
        TrolleyGang x = new TrolleyGang();
        for (int hour = 0; hour < 8; hour++) {
            x.setCold(hour, 1);
        }
        int[] hours = {5, 6, 7, 20, 21, 24, 25, 30, 31};
        int[] due = {5, 6, 4, 0, 1, 4, 5, 9, 7};
        for (int k = 0; k < hours.length; k++) {
            if (hours[k] > x.count(0)) {
                x.pass(hours[k] - x.count(0));
            }
            Check.due("frost in the hour " + hours[k], x.span(0, 1), due[k]);
        }
    }

    /** "if one flies into a span that is up, this is worn by 25 more (at most 100)" */
    private static void swanAtSpanThatIsUp() {
        int[] ahead = {0, 1, 50, 74, 75, 76, 98, 99};
        for (int span : new int[] {0, 23}) {
            for (int by : ahead) {
                TrolleyGang x = Rings.worn(span, by);
                int others = x.count(6) - by;
                x.setSwan(0, span);
                x.pass(1);
                Check.due("worn by " + by + " and a swan", x.span(span, 0), Math.min(100, by + 25));
                Check.due("the others", x.count(6) - x.span(span, 0), others);
                Check.due("down", x.span(span, 2), by >= 75 ? 1 : 0);
            }
        }
    }

    /** "if one flies into a span that is up": not into one that is down */
    private static void swanAtSpanThatIsDown() {
        TrolleyGang x = Rings.worn(7, 100);
        for (int hour = 0; hour < 12; hour++) {
            x.setSwan(hour, 7);
        }
        x.pass(24);
        Check.due("worn behind 24 swans more", x.span(7, 0), 100);
        Check.due("down behind 24 swans more", x.span(7, 2), 1);
        Check.due("all worn", x.count(6), 100);
    }

    /** The swan comes ahead of the gang: what this puts up in the same hour is worn by 50, not by 75. */
    private static void swanAndWorkInOneHour() {
        TrolleyGang x = Rings.worn(0, 100);
        x.setSwan(1, 0);
        x.order(0);
        x.pass(2);
        Check.due("up", x.span(0, 2), 0);
        Check.due("worn", x.span(0, 0), 50);
    }

    /** "Buses, by numbers, that run" */
    private static void busesThatRun() {
        TrolleyGang x = Rings.withDown(6);
        x.bus(5, false);
        x.bus(5, true);
        x.bus(20, false);
        x.park(0);
        x.park(2);
        x.pass(1);
        int[] stuck = {0, 1, 0};
        for (int number = 0; number < 3; number++) {
            Check.due("came, bus " + number, x.told(number, 3), 0);
            Check.due("stuck, bus " + number, x.told(number, 5), stuck[number]);
            Check.due("fares, bus " + number, x.told(number, 4), 0);
        }
        Check.due("worn", x.count(6), 100);
        Check.due("hours in which buses were stuck", x.count(8), 1);
    }

    /** "Buses, by numbers, .. one after the other": the first brings a span down, then the second is stuck */
    private static void busesByNumbers() {
        for (int first = 0; first < 2; first++) {
            // number 1 is ahead of number 2 on the ring, or behind it
            TrolleyGang x = Rings.worn(10, 99);
            x.bus(9 - first, false);
            x.bus(8 + first, false);
            x.pass(1);
            Check.due("the first one", x.told(1, 0), 10);
            Check.due("the first one is not stuck", x.told(1, 5), 0);
            Check.due("the second one", x.told(2, 0), 9);
            Check.due("the second one is stuck", x.told(2, 5), 1);
            Check.due("spans of the second one", x.told(2, 3), 1 - first);
        }
        // a scraper ahead of one without, and the other way round
        TrolleyGang y = Rings.wornAndFrozen(0, 0, 9);
        y.bus(3, true);
        y.bus(3, false);
        y.pass(1);
        Check.due("2 and 1", y.span(4, 0), 3);
        TrolleyGang z = Rings.wornAndFrozen(0, 0, 9);
        z.bus(3, false);
        z.bus(3, true);
        z.pass(1);
        Check.due("5 and 2", z.span(4, 0), 7);
    }

    /** "each goes up to 3 spans on, one after the other" */
    private static void upToThreeSpans() {
        TrolleyGang x = new TrolleyGang();
        x.bus(4, false);
        Check.due("pass(1)", x.pass(1), 9);
        Check.due("its span", x.told(0, 0), 7);
        Check.due("spans in all", x.told(0, 3), 3);
        int[] worn = {0, 1, 1, 1, 0};
        for (int k = 0; k < 5; k++) {
            Check.due("worn at " + (4 + k), x.span(4 + k, 0), worn[k]);
        }
        x.pass(7);
        Check.due("once round in eight hours", x.told(0, 0), 4);
        Check.due("all spans worn by 1", x.count(6), 24);
    }

    /**
     * "If the next span is down, it stays where it is, and this is an hour in which it is stuck, also if it
     * came on by a span or two ahead of that"
     */
    private static void nextSpanIsDown() {
        for (int down : new int[] {0, 2, 23}) {
            for (int free = 0; free <= 3; free++) {
                TrolleyGang x = Rings.worn(down, 100);
                x.bus((down + 23 - free) % 24, true);
                Check.due("fares, " + free + " free", x.pass(1), 3 * free);
                Check.due("its span, " + free + " free", x.told(1, 0), (down + 23) % 24);
                Check.due("spans, " + free + " free", x.told(1, 3), free);
                Check.due("stuck, " + free + " free", x.told(1, 5), free == 3 ? 0 : 1);
                Check.due("all stuck, " + free + " free", x.count(8), free == 3 ? 0 : 1);
                x.pass(1);
                Check.due("stuck in the next hour, " + free + " free", x.told(1, 5), free == 3 ? 1 : 2);
            }
        }
    }

    /** "(whether its own one is down does not matter)" */
    private static void ownSpanIsDown() {
        for (int down : new int[] {0, 10, 23}) {
            TrolleyGang x = Rings.withDown(down);
            x.bus(down, false);
            x.pass(1);
            Check.due("away from " + down, x.told(0, 0), (down + 3) % 24);
            Check.due("not stuck at " + down, x.told(0, 5), 0);
            TrolleyGang y = Rings.withDown(down, (down + 1) % 24);
            y.bus(down, false);
            y.pass(1);
            Check.due("still at " + down, y.told(0, 0), down);
            Check.due("stuck at " + down, y.told(0, 5), 1);
        }
    }

    /** All spans are down, and all buses are stuck in each hour. */
    private static void allSpansAreDown() {
        TrolleyGang x = Rings.allDown();
        for (int number = 0; number < 6; number++) {
            x.bus(4 * number, number % 2 == 0);
        }
        Check.due("spans that are down", x.count(5), 24);
        Check.due("coins", x.pass(72), 0);
        Check.due("hours", x.count(8), 6 * 72);
        Check.due("worn", x.count(6), 2400);
    }

    /** "the fare of this hour comes in": in the last hour of a night, the first of a day, and round again */
    private static void fareOfThisHour() {
        TrolleyGang x = new TrolleyGang();
        x.setFare(true, 9);
        x.setFare(false, 0);
        x.bus(0, true);
        x.pass(5);
        Check.due("the hour 5", x.pass(1), 27);
        Check.due("the hour 6", x.pass(1), 0);
        x.pass(12);
        Check.due("the hour 19", x.pass(1), 0);
        Check.due("the hour 20", x.pass(1), 27);
        x.pass(2);
        Check.due("the hour 23", x.pass(1), 27);
        Check.due("the hour 24", x.pass(1), 27);
        Check.due("fares of the bus", x.told(0, 4), x.count(2));
    }

    /** "With a scraper the frost of this span is 0 then, and it is worn by 2 more": frost 0 to 9 */
    private static void scraper() {
        for (int frost = 0; frost <= 9; frost++) {
            TrolleyGang x = Rings.wornAndFrozen(0, 0, frost);
            x.bus(22, true);
            x.pass(1);
            for (int span : new int[] {23, 0, 1}) {
                Check.due("frost behind it", x.span(span, 1), 0);
                Check.due("worn behind it", x.span(span, 0), 2);
            }
            for (int span : new int[] {22, 2}) {
                Check.due("frost where it did not come", x.span(span, 1), frost);
                Check.due("worn where it did not come", x.span(span, 0), 0);
            }
        }
        TrolleyGang y = Rings.wornAndFrozen(0, 99, 9);
        y.bus(23, true);
        y.pass(1);
        Check.due("frost of the span that comes down by that", y.span(0, 1), 0);
        Check.due("frost of the next one", y.span(1, 1), 9);
    }

    /** "without one it is worn by 1 and half (cut) of its frost more (at most 100)": frost 0 to 9 */
    private static void withoutScraper() {
        int[] due = {1, 1, 2, 2, 3, 3, 4, 4, 5, 5};
        for (int frost = 0; frost <= 9; frost++) {
            TrolleyGang x = Rings.wornAndFrozen(0, 0, frost);
            x.bus(22, false);
            x.pass(1);
            for (int span : new int[] {23, 0, 1}) {
                Check.due("frost " + frost + " behind it", x.span(span, 1), frost);
                Check.due("worn behind it, frost " + frost, x.span(span, 0), due[frost]);
            }
            TrolleyGang y = Rings.wornAndFrozen(0, 99, frost);
            y.bus(23, false);
            y.pass(1);
            Check.due("at most 100, frost " + frost, y.span(0, 0), 100);
            Check.due("frost " + frost + " of the span that comes down", y.span(0, 1), frost);
        }
    }

    /** "If it comes down by that, the bus goes no farther in this hour (and is not stuck by that)." */
    private static void comesDownUnderIt() {
        for (int way = 1; way <= 3; way++) {
            TrolleyGang x = Rings.worn(10, 99);
            x.bus(10 - way, false);
            Check.due("fares, down at the span " + way, x.pass(1), 3 * way);
            Check.due("its span, down at the span " + way, x.told(1, 0), 10);
            Check.due("spans, down at the span " + way, x.told(1, 3), way);
            Check.due("not stuck, down at the span " + way, x.told(1, 5), 0);
            Check.due("down", x.span(10, 2), 1);
            Check.due("the next one is not worn more", x.span(11, 0), 24);
            x.pass(1);
            Check.due("it goes on from there", x.told(1, 0), 13);
            Check.due("not stuck then", x.told(1, 5), 0);
        }
        // the next one is down too: it is stuck from the next hour on only
        TrolleyGang y = Rings.worn(10, 99);
        Rings.swans(y, 11, 4);
        y.bus(9, false);
        y.pass(1);
        Check.due("its span", y.told(1, 0), 10);
        Check.due("not stuck yet", y.told(1, 5), 0);
        y.pass(1);
        Check.due("its span still", y.told(1, 0), 10);
        Check.due("stuck now", y.told(1, 5), 1);
    }

    /** "Gang, with an order": without one it stays, and does no work */
    private static void gangWithoutOrder() {
        TrolleyGang x = Rings.worn(0, 100);
        Check.due("coins", x.pass(72), 0);
        Check.due("still there", x.gang(0), 0);
        Check.due("works", x.gang(4), 0);
        Check.due("down still", x.span(0, 2), 1);
        x.order(9);
        x.pass(1);
        x.cancel(9);
        x.pass(5);
        Check.due("it stays where it came", x.gang(0), 4);
    }

    /** "by the shorter way round (upwards, if both are as long), up to 4 spans", "If it is there then, it does a work" */
    private static void gangsWay() {
        for (int from = 0; from < 24; from++) {
            for (int to = 0; to < 24; to++) {
                TrolleyGang x = new TrolleyGang();
                x.order(from);
                x.pass(4);
                Check.due("the gang at " + from, x.gang(0), from);
                Check.due("without an order", x.gang(2), 0);
                x.order(to);
                int up = (to + 24 - from) % 24;
                int step = up <= 12 ? Math.min(4, up) : 24 - Math.min(4, 24 - up);
                int at = (from + step) % 24;
                Check.due("from " + from + " to " + to + ": coins", x.pass(1), at == to ? -2 : 0);
                Check.due("from " + from + " to " + to, x.gang(0), at);
                Check.due("from " + from + " to " + to + ": works", x.gang(4), at == to ? 2 : 1);
            }
        }
    }

    /** "buses and wires do not hinder it" */
    private static void nothingHindersTheGang() {
        TrolleyGang x = Rings.allDown();
        for (int number = 0; number < 6; number++) {
            x.bus(number + 1, false);
        }
        x.order(12);
        int[] at = {4, 8, 12};
        for (int hour = 0; hour < 3; hour++) {
            x.pass(1);
            Check.due("the gang", x.gang(0), at[hour]);
        }
        Check.due("works", x.gang(3), 1);
    }

    /** "it does a work, for 2 coins, however much the span is worn" */
    private static void workHoweverWorn() {
        for (int by : new int[] {0, 1, 29, 30, 99, 100}) {
            TrolleyGang x = Rings.worn(0, by);
            x.order(0);
            Check.due("coins for a work, worn by " + by, x.pass(1), -2);
            Check.due("works in all, worn by " + by, x.gang(4), 1);
        }
    }

    /** "it is worn by 30 less (at least 0), and if it is worn by less than 30 then, the order is done" */
    private static void workWhileUp() {
        int[] ahead = {0, 1, 29, 30, 31, 58, 59, 60, 61, 89, 90, 99};
        int[] behind = {0, 0, 0, 0, 1, 28, 29, 30, 31, 59, 60, 69};
        for (int k = 0; k < ahead.length; k++) {
            TrolleyGang x = Rings.worn(0, ahead[k]);
            x.order(0);
            x.pass(1);
            boolean isDone = behind[k] < 30;
            String what = "worn by " + ahead[k] + " ahead of a work: ";
            Check.due(what + "worn", x.span(0, 0), behind[k]);
            Check.due(what + "orders", x.gang(2), isDone ? 0 : 1);
            Check.due(what + "works at the first one", x.gang(3), isDone ? 0 : 1);
            Check.due(what + "put up", x.gang(5), 0);
        }
        // two works while up do not put it "up, and worn by 50"
        TrolleyGang y = Rings.worn(0, 99);
        y.order(0);
        y.pass(2);
        Check.due("worn behind two works", y.span(0, 0), 39);
        y.pass(1);
        Check.due("worn behind three works", y.span(0, 0), 9);
        Check.due("done by the third", y.gang(2), 0);
        Check.due("none put up", y.gang(5), 0);
    }

    /** "If the span is down, and this is the second work for this order, .. it is up, and worn by 50 then, and .. done." */
    private static void workWhileDown() {
        for (int span : new int[] {0, 4, 20}) {
            TrolleyGang x = Rings.worn(span, 100);
            x.order(span);
            x.pass(1);
            Check.due("down behind one work", x.span(span, 2), 1);
            Check.due("worn behind one work", x.span(span, 0), 100);
            Check.due("orders behind one work", x.gang(2), 1);
            Check.due("works", x.gang(3), 1);
            Check.due("put up behind one work", x.gang(5), 0);
            x.pass(1);
            Check.due("down behind two works", x.span(span, 2), 0);
            Check.due("worn behind two works", x.span(span, 0), 50);
            Check.due("orders behind two works", x.gang(2), 0);
            Check.due("works behind", x.gang(3), 0);
            Check.due("put up behind two works", x.gang(5), 1);
            Check.due("coins", x.count(2), -4);
        }
    }

    /** "or a later one (those at which it was up count, too)" */
    private static void laterWork() {
        // one work while up, then it comes down: the second one puts it up
        TrolleyGang x = Rings.wornAndFrozen(0, 99, 9);
        x.order(0);
        x.bus(23, false);
        x.bus(23, false);
        x.park(1);
        x.park(2);
        x.pass(1);
        Check.due("worn behind the first work", x.span(0, 0), 69);
        x.park(1);
        x.park(2);
        x.setSwan(4, 0);
        // 69, 25 by the swan, 5 and 5 by the buses
        x.pass(1);
        Check.due("put up by the second work", x.gang(5), 1);
        Check.due("worn by 50", x.span(0, 0), 50);
        Check.due("done", x.gang(2), 0);
        // two works while up, then it comes down: the third one puts it up
        TrolleyGang y = Rings.wornAndFrozen(0, 99, 9);
        y.order(0);
        for (int number = 1; number <= 3; number++) {
            y.bus(23, false);
            y.park(number);
        }
        y.setSwan(4, 0);
        y.setSwan(5, 0);
        y.pass(2);
        Check.due("worn behind the second work", y.span(0, 0), 64);
        Check.due("works", y.gang(3), 2);
        for (int number = 1; number <= 3; number++) {
            y.park(number);
        }
        y.pass(1);
        Check.due("put up by the third work", y.gang(5), 1);
        Check.due("worn by 50 again", y.span(0, 0), 50);
        Check.due("works in all", y.gang(4), 3);
        Check.due("done again", y.gang(2), 0);
    }

    /** "An order that is done is gone, and the works at the next one begin with 0." */
    private static void nextOrder() {
        TrolleyGang x = Rings.withDown(0, 3);
        x.order(0);
        x.order(3);
        x.pass(2);
        Check.due("the next one is the first", x.gang(1), 3);
        Check.due("its place", x.span(3, 4), 0);
        Check.due("the place of the one that is done", x.span(0, 4), -1);
        Check.due("works at it", x.gang(3), 0);
        x.pass(1);
        Check.due("one work is not enough there", x.span(3, 2), 1);
        Check.due("works at it, one", x.gang(3), 1);
        x.pass(1);
        Check.due("two works are", x.span(3, 2), 0);
        // done by mending, behind three works
        TrolleyGang y = Rings.worn(0, 99);
        Rings.swans(y, 4, 4);
        y.order(0);
        y.order(4);
        y.pass(3);
        Check.due("the next one is the first behind mending", y.gang(1), 4);
        Check.due("works at it behind mending", y.gang(3), 0);
        y.pass(1);
        Check.due("one work is not enough behind mending", y.span(4, 2), 1);
    }

    /** A full list is done in its order, one work an hour. */
    private static void allOrders() {
        TrolleyGang x = new TrolleyGang();
        int[] spans = {0, 4, 3, 23, 21, 1};
        for (int span : spans) {
            x.order(span);
        }
        for (int place = 0; place < 6; place++) {
            Check.due("orders", x.gang(2), 6 - place);
            Check.due("the first one", x.gang(1), spans[place]);
            Check.due("coins", x.pass(1), -2);
            Check.due("the gang", x.gang(0), spans[place]);
        }
        Check.due("no order left", x.gang(2), 0);
        Check.due("coins behind", x.pass(1), 0);
        Check.due("one can come again", x.order(21), 1);
        // all are down: two works each
        TrolleyGang y = Rings.allDown();
        for (int span = 0; span < 6; span++) {
            y.order(span);
        }
        for (int work = 0; work < 12; work++) {
            Check.due("orders behind " + work + " works", y.gang(2), 6 - work / 2);
            Check.due("the first one behind " + work + " works", y.gang(1), work / 2);
            Check.due("works at it behind " + work, y.gang(3), work % 2);
            y.pass(1);
        }
        Check.due("no order left, all put up", y.gang(2), 0);
        Check.due("put up", y.gang(5), 6);
    }

    /** "The hour is 1 greater." */
    private static void hourIsGreater() {
        TrolleyGang x = Rings.busy(6, 6);
        int before = x.count(0);
        x.pass(1);
        Check.due("an hour", x.count(0), before + 1);
        x.pass(72);
        Check.due("72 hours", x.count(0), before + 73);
    }
}
