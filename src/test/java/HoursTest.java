/** Promise 14: how hours go by, in their five steps. */
final class HoursTest {
    public static void main(String[] args) {
        wrongHours();
        answers();
        frost();
        frostByDay();
        swans();
        wornUnderBuses();
        stuck();
        leavesSpanThatIsDown();
        busBringsSpanDown();
        gangGoes();
        gangMends();
        gangMendsJustEnough();
        gangPutsUp();
        worksWhileUpCount();
        stepsInTheirOrder();
        Check.end("HoursTest");
    }

    private static void wrongHours() {
        TrolleyGang x = new TrolleyGang();
        x.bus(0, true);
        int[] wrong = {0, -1, 73, Integer.MIN_VALUE, Integer.MAX_VALUE};
        for (int hours : wrong) {
            Check.refusedArgument(x, "pass(" + hours + ")", () -> x.pass(hours));
        }
        x.pass(1);
        x.pass(72);
        Check.due("count(0)", x.count(0), 73);
    }

    private static void answers() {
        TrolleyGang x = new TrolleyGang();
        Check.due("pass(1) without buses", x.pass(1), 0);
        x.order(0);
        Check.due("pass(1) with a work", x.pass(1), -2);
        x.bus(0, true);
        Check.due("pass(5): four hours of night, one of day", x.pass(5), 4 * 9 + 6);
        Check.due("count(2)", x.count(2), 40);
        x.setFare(false, 7);
        x.setFare(true, 1);
        Check.due("pass(14): thirteen hours of day, one of night", x.pass(14), 13 * 21 + 3);
        Check.due("told(0, 4)", x.told(0, 4), 4 * 9 + 6 + 13 * 21 + 3);
        Check.due("told(0, 3)", x.told(0, 3), 19 * 3);
    }

    private static void frost() {
        TrolleyGang x = new TrolleyGang();
        int[] colds = {1, 2, 0, 3, 2, 3, 3, 3};
        for (int hour = 0; hour < 8; hour++) {
            x.setCold(hour, colds[hour]);
        }
        // the hours 0 to 5, then by day, then the hours 20 to 29 with the cold of 4, 5, 6, 7, 0 ..
        int[] due = {1, 3, 3, 6, 8, 9, 7, 5, 3, 1, 0, 0, 0, 0, 0, 0, 0, 0, 0, 0, 2, 5, 8, 9, 9, 9, 9, 9, 9, 9, 7};
        for (int hour = 0; hour < due.length; hour++) {
            x.pass(1);
            Check.due("frost behind the hour " + hour, x.span(hour % 24, 1), due[hour]);
            Check.due("all frost behind the hour " + hour, x.count(7), 24 * due[hour]);
        }
    }

    private static void frostByDay() {
        TrolleyGang x = Rings.withDown(4);
        x.setCold(4, 3);
        x.setCold(5, 3);
        x.pass(2);
        Check.due("frost at a span that is down", x.span(4, 1), 6);
        x.setCold(6, 3);
        x.setCold(7, 3);
        x.pass(1);
        Check.due("cold does not come by day", x.span(5, 1), 4);
        x.pass(13);
        x.setCold(4, 1);
        Check.due("frost by the end of the day", x.span(5, 1), 0);
        x.pass(1);
        Check.due("frost of the hour 20 by the cold of now", x.span(5, 1), 1);
    }

    private static void swans() {
        TrolleyGang x = new TrolleyGang();
        x.setSwan(3, 9);
        x.pass(3);
        Check.due("ahead of the swan", x.span(9, 0), 0);
        int[] due = {25, 50, 75, 100, 100};
        for (int days = 0; days < 5; days++) {
            x.pass(1);
            Check.due("worn by swans", x.span(9, 0), due[days]);
            Check.due("down by swans", x.span(9, 2), days < 3 ? 0 : 1);
            x.pass(11);
            Check.due("worn 11 hours later", x.span(9, 0), due[days]);
        }
        Check.due("all worn", x.count(6), 100);
        TrolleyGang y = new TrolleyGang();
        y.bus(8, true);
        y.setSwan(0, 9);
        y.setSwan(1, 9);
        y.setSwan(2, 9);
        y.pass(3);
        Check.due("worn by three swans and a bus", y.span(9, 0), 77);
        y.setSwan(3, 9);
        y.pass(1);
        Check.due("worn by 100 at most", y.span(9, 0), 100);
    }

    private static void wornUnderBuses() {
        for (int frost = 0; frost <= 9; frost++) {
            TrolleyGang x = new TrolleyGang();
            for (int hour = 0; hour < 4; hour++) {
                x.setCold(hour, Math.max(0, Math.min(3, frost - 3 * hour)));
            }
            x.pass(3);
            x.bus(10, false);
            x.pass(1);
            int worn = 1 + frost / 2;
            for (int span = 11; span <= 13; span++) {
                Check.due("worn without a scraper, frost " + frost, x.span(span, 0), worn);
                Check.due("frost stays without a scraper", x.span(span, 1), frost);
            }
            x.bus(10, true);
            x.park(0);
            x.pass(1);
            for (int span = 11; span <= 13; span++) {
                Check.due("worn with a scraper, frost " + frost, x.span(span, 0), worn + 2);
                Check.due("frost behind a scraper", x.span(span, 1), 0);
            }
            Check.due("all worn", x.count(6), 3 * (worn + 2));
            Check.due("the span left is not scraped", x.span(10, 1), frost);
        }
        TrolleyGang y = new TrolleyGang();
        y.bus(22, false);
        y.pass(1);
        Check.due("round the ring", y.told(0, 0), 1);
        Check.due("span 0 is between", y.span(0, 0), 1);
    }

    private static void stuck() {
        // from 0, 1, 2 or 3 spans ahead of a span that is down
        for (int free = 0; free <= 3; free++) {
            TrolleyGang x = Rings.withDown(10);
            x.bus(9 - free, false);
            Check.due("pass(1), " + free + " free", x.pass(1), 3 * free);
            Check.due("its span, " + free + " free", x.told(0, 0), 9);
            Check.due("came, " + free + " free", x.told(0, 3), free);
            Check.due("stuck, " + free + " free", x.told(0, 5), free < 3 ? 1 : 0);
            x.pass(1);
            Check.due("stuck later, " + free + " free", x.told(0, 5), free < 3 ? 2 : 1);
            x.park(0);
            x.pass(1);
            Check.due("stuck while parked, " + free + " free", x.told(0, 5), free < 3 ? 2 : 1);
        }
    }

    private static void leavesSpanThatIsDown() {
        TrolleyGang x = Rings.withDown(10);
        x.bus(10, false);
        Check.due("pass(1) from a span that is down", x.pass(1), 9);
        Check.due("its span", x.told(0, 0), 13);
        Check.due("not stuck", x.told(0, 5), 0);
        Check.due("told(0, 6)", x.told(0, 6), 20);
        TrolleyGang y = Rings.withDown(10, 11);
        y.bus(10, false);
        y.pass(1);
        Check.due("both down: its span", y.told(0, 0), 10);
        Check.due("both down: stuck", y.told(0, 5), 1);
    }

    private static void busBringsSpanDown() {
        TrolleyGang x = Rings.frozenAndWorn();
        for (int number = 0; number < 6; number++) {
            x.bus(1, false);
        }
        // each wears span 2 by 5: the fifth one brings it down, the sixth one is stuck
        Check.due("pass(1)", x.pass(1), 4 * 9 + 3);
        int[] at = {4, 4, 4, 4, 2, 1};
        int[] stuck = {0, 0, 0, 0, 0, 1};
        int[] came = {3, 3, 3, 3, 1, 0};
        for (int number = 0; number < 6; number++) {
            Check.due("told(" + number + ", 0)", x.told(number, 0), at[number]);
            Check.due("told(" + number + ", 5)", x.told(number, 5), stuck[number]);
            Check.due("told(" + number + ", 3)", x.told(number, 3), came[number]);
        }
        Check.due("span(2, 0)", x.span(2, 0), 100);
        Check.due("span(2, 2)", x.span(2, 2), 1);
        Check.due("span(3, 0)", x.span(3, 0), 20);
        x.pass(1);
        Check.due("the fifth one goes on", x.told(4, 0), 5);
        Check.due("the sixth one stays", x.told(5, 0), 1);
        TrolleyGang y = new TrolleyGang();
        y.setFare(true, 0);
        y.setFare(false, 0);
        Check.due("without fares", y.bus(0, true) + y.pass(10), 0);
    }

    private static void gangGoes() {
        int[] spans = {3, 4, 5, 12, 13, 19, 20, 21};
        int[] there = {3, 4, 4, 4, 20, 20, 20, 21};
        int[] hours = {1, 1, 2, 3, 3, 2, 1, 1};
        for (int k = 0; k < spans.length; k++) {
            TrolleyGang x = new TrolleyGang();
            x.order(spans[k]);
            x.pass(1);
            Check.due("gang(0) with order(" + spans[k] + ")", x.gang(0), there[k]);
            Check.due("works with order(" + spans[k] + ")", x.gang(4), hours[k] == 1 ? 1 : 0);
            x.pass(hours[k]);
            Check.due("gang(0) there", x.gang(0), spans[k]);
            Check.due("works there", x.gang(4), 1);
            Check.due("order gone", x.gang(2), 0);
        }
        TrolleyGang y = Rings.withDown(2);
        y.order(5);
        y.pass(1);
        Check.due("past a span that is down", y.gang(0), 4);
        TrolleyGang z = new TrolleyGang();
        z.order(22);
        z.pass(1);
        z.order(10);
        z.pass(1);
        Check.due("upwards past 23, both ways as long", z.gang(0), 2);
    }

    private static void gangMends() {
        // worn by 60: 30 is not less than 30
        TrolleyGang x = new TrolleyGang();
        for (int hour = 0; hour < 3; hour++) {
            x.setCold(hour, 3);
        }
        Rings.swans(x, 2, 2);
        x.pass(1);
        x.setCold(0, 0);
        x.setCold(1, 0);
        x.setCold(2, 0);
        x.bus(1, false);
        x.bus(1, false);
        x.pass(1);
        x.park(0);
        x.park(1);
        Check.due("worn ahead of the gang", x.span(2, 0), 60);
        x.order(2);
        x.order(9);
        Check.due("pass(1)", x.pass(1), -2);
        Check.due("worn behind a work", x.span(2, 0), 30);
        Check.due("the order stays", x.gang(1), 2);
        Check.due("works", x.gang(3), 1);
        x.pass(1);
        Check.due("worn behind two works", x.span(2, 0), 0);
        Check.due("the next order is the first one", x.gang(1), 9);
        Check.due("works at the next one", x.gang(3), 0);
        Check.due("none put up", x.gang(5), 0);
        Check.due("the gang stays till the next hour", x.gang(0), 2);
        TrolleyGang y = new TrolleyGang();
        Rings.swans(y, 0, 2);
        y.order(0);
        y.pass(1);
        Check.due("50 less 30", y.span(0, 0), 20);
        Check.due("done at once", y.gang(2), 0);
        y.order(0);
        y.pass(1);
        Check.due("20 less 30, at least 0", y.span(0, 0), 0);
        y.order(0);
        Check.due("a work at a span that is not worn", y.pass(1), -2);
        Check.due("is done too", y.gang(2), 0);
        Check.due("works in all", y.gang(4), 3);
    }

    private static void gangMendsJustEnough() {
        // worn by 50, then by 5, 2, 1 and 1 under four buses: 59 less 30 is less than 30
        TrolleyGang x = new TrolleyGang();
        x.setCold(0, 3);
        x.setCold(1, 3);
        x.setCold(2, 3);
        Rings.swans(x, 2, 2);
        x.pass(1);
        for (int number = 0; number < 4; number++) {
            x.bus(1, number == 1);
        }
        x.pass(1);
        Check.due("worn ahead of the gang", x.span(2, 0), 59);
        for (int number = 0; number < 4; number++) {
            x.park(number);
        }
        x.order(2);
        x.pass(1);
        Check.due("worn behind a work", x.span(2, 0), 29);
        Check.due("done by one work", x.gang(2), 0);
    }

    private static void gangPutsUp() {
        TrolleyGang x = Rings.withDown(0);
        x.order(0);
        Check.due("the first work", x.pass(1), -2);
        Check.due("still down", x.span(0, 2), 1);
        Check.due("still worn", x.span(0, 0), 100);
        Check.due("works", x.gang(3), 1);
        Check.due("the second work", x.pass(1), -2);
        Check.due("up", x.span(0, 2), 0);
        Check.due("worn by 50", x.span(0, 0), 50);
        Check.due("done", x.gang(2), 0);
        Check.due("works behind", x.gang(3), 0);
        Check.due("put up", x.gang(5), 1);
        Check.due("works in all", x.gang(4), 2);
        Rings.swans(x, 0, 2);
        Check.due("down again", x.span(0, 2), 1);
    }

    private static void worksWhileUpCount() {
        TrolleyGang x = Rings.withOneWorkWhileUp();
        Check.due("worn behind the first work", x.span(2, 0), 65);
        Check.due("works", x.gang(3), 1);
        // a swan by 25, two buses by 5 each: down; the second work puts it up in the same hour
        Rings.swans(x, 2, 1);
        Check.due("worn by 50", x.span(2, 0), 50);
        Check.due("up", x.span(2, 2), 0);
        Check.due("put up", x.gang(5), 1);
        Check.due("done", x.gang(2), 0);
        Check.due("the sixth bus brought it down", x.told(5, 0), 2);
    }

    private static void stepsInTheirOrder() {
        // frost comes ahead of the buses of the same hour
        TrolleyGang x = new TrolleyGang();
        x.setCold(0, 3);
        x.bus(0, false);
        x.pass(1);
        Check.due("frost ahead of the bus", x.span(1, 0), 2);
        // the swan comes ahead of the buses, the gang behind them
        TrolleyGang y = new TrolleyGang();
        Rings.swans(y, 1, 3);
        y.bus(0, false);
        y.setSwan(3, 1);
        y.order(1);
        y.pass(1);
        Check.due("the swan ahead of the bus", y.told(0, 5), 1);
        y.setSwan(3, -1);
        y.pass(1);
        Check.due("up again", y.span(1, 2), 0);
        Check.due("the gang behind the bus", y.told(0, 5), 2);
        Check.due("stuck at 0", y.told(0, 0), 0);
        // a scraper counts for the buses behind it in the same hour only
        TrolleyGang z = Rings.frozenAndWorn();
        z.bus(9, false);
        z.bus(9, true);
        z.bus(9, false);
        z.pass(1);
        Check.due("5, 2 and 1", z.span(10, 0), 8);
        // the hour's fare and night are those of its beginning
        TrolleyGang w = new TrolleyGang();
        w.bus(0, true);
        w.pass(5);
        Check.due("the hour 5 is night", w.pass(1), 9);
        Check.due("the hour 6 is day", w.pass(1), 6);
        w.pass(12);
        Check.due("the hour 19 is day", w.pass(1), 6);
        Check.due("the hour 20 is night", w.pass(1), 9);
    }
}
