/** Promises 10 to 13, each sentence that names a boundary case. */
final class GangEdgesTest {
    private static final Twins.Ring FULL = () -> Rings.busy(6, 6);
    private static final Twins.Ring[] RINGS = {TrolleyGang::new, FULL};

    public static void main(String[] args) {
        orderSpan();
        orderSeventh();
        orderTwice();
        orderBothWrong();
        orderAtTheEnd();
        cancelSpan();
        cancelNone();
        cancelPlace();
        cancelFirst();
        cancelAnother();
        gangWhat();
        gangWithoutOrders();
        gangHours();
        gangPutUp();
        countWhat();
        countLeast();
        countGreatest();
        Check.end("GangEdgesTest");
    }

    /** "Throws IndexOutOfBoundsException if span is not 0 to 23" */
    private static void orderSpan() {
        for (int orders : new int[] {0, 5}) {
            for (int wrong : new int[] {-1, 24, Twins.LEAST, Twins.GREATEST}) {
                Twins.refusedIndex("order(" + wrong + ")", () -> Rings.busy(2, orders), x -> x.order(wrong));
            }
        }
        TrolleyGang x = new TrolleyGang();
        Check.due("order(0)", x.order(0), 1);
        Check.due("order(23)", x.order(23), 2);
        Check.due("the place of 0", x.span(0, 4), 0);
        Check.due("the place of 23", x.span(23, 4), 1);
    }

    /** "Throws IllegalStateException if there are 6, .." */
    private static void orderSeventh() {
        Twins.refusedState("order(1) as a seventh", FULL, x -> x.order(1));
        Twins.refusedState("order(22) as a seventh", FULL, x -> x.order(22));
        Check.due("a sixth is taken", Rings.busy(6, 5).order(22), 6);
        TrolleyGang x = Rings.busy(6, 6);
        x.cancel(0);
        Check.due("a sixth is taken behind cancel", x.order(1), 6);
    }

    /** "Throws IllegalStateException if .. one for this span" */
    private static void orderTwice() {
        int[] spans = {12, 3, 23, 0, 7, 18};
        for (int orders = 1; orders <= 6; orders++) {
            int many = orders;
            for (int place = 0; place < orders; place++) {
                int span = spans[place];
                Twins.refusedState("order(" + span + ") twice", () -> Rings.busy(0, many), x -> x.order(span));
            }
        }
        // one that is taken back, or done, is none
        TrolleyGang x = new TrolleyGang();
        x.order(0);
        x.cancel(0);
        Check.due("order(0) behind cancel(0)", x.order(0), 1);
        x.pass(1);
        Check.due("order(0) behind the work", x.order(0), 1);
    }

    /** "If several exceptions apply, the one that is named first is thrown." */
    private static void orderBothWrong() {
        Twins.refusedIndex("order(-1) as a seventh", FULL, x -> x.order(-1));
        Twins.refusedIndex("order(24) as a seventh", FULL, x -> x.order(24));
    }

    /** "the span of a new order, at the end of the list", "Returns how many there are then." */
    private static void orderAtTheEnd() {
        TrolleyGang x = new TrolleyGang();
        int[] spans = {20, 4, 19, 5, 0, 23};
        for (int place = 0; place < 6; place++) {
            Check.due("order(" + spans[place] + ")", x.order(spans[place]), place + 1);
            Check.due("its place", x.span(spans[place], 4), place);
            Check.due("the first one", x.gang(1), 20);
            Check.due("orders", x.gang(2), place + 1);
        }
    }

    /** "Throws IndexOutOfBoundsException if span is not 0 to 23" */
    private static void cancelSpan() {
        for (Twins.Ring ring : RINGS) {
            for (int wrong : new int[] {-1, 24, Twins.LEAST, Twins.GREATEST}) {
                Twins.refusedIndex("cancel(" + wrong + ")", ring, x -> x.cancel(wrong));
            }
        }
    }

    /** "Throws IllegalStateException if there is none for it" */
    private static void cancelNone() {
        Twins.refusedState("cancel(0) without orders", TrolleyGang::new, x -> x.cancel(0));
        Twins.refusedState("cancel(23) without orders", TrolleyGang::new, x -> x.cancel(23));
        Twins.refusedState("cancel(22), six others", FULL, x -> x.cancel(22));
        Twins.refusedState("cancel(12), where the gang is, without one", () -> Rings.busy(1, 0), x -> x.cancel(12));
        Twins.refusedState("cancel(3) twice", GangEdgesTest::withoutThree, x -> x.cancel(3));
        Twins.refusedState("cancel(18), the last one, twice", GangEdgesTest::withoutLast, x -> x.cancel(18));
        Twins.refusedState("cancel(0) behind the work", GangEdgesTest::done, x -> x.cancel(0));
    }

    private static TrolleyGang withoutThree() {
        TrolleyGang x = Rings.busy(6, 6);
        x.cancel(3);
        return x;
    }

    private static TrolleyGang withoutLast() {
        TrolleyGang x = Rings.busy(6, 6);
        x.cancel(18);
        return x;
    }

    private static TrolleyGang done() {
        TrolleyGang x = new TrolleyGang();
        x.order(0);
        x.pass(1);
        return x;
    }

    /** "Returns its place in the list, from 0." */
    private static void cancelPlace() {
        int[] spans = {12, 3, 23, 0, 7, 18};
        for (int orders = 1; orders <= 6; orders++) {
            for (int place = 0; place < orders; place++) {
                TrolleyGang x = Rings.busy(0, orders);
                Check.due("cancel(" + spans[place] + ") of " + orders, x.cancel(spans[place]), place);
                Check.due("orders left", x.gang(2), orders - 1);
                for (int other = 0; other < orders; other++) {
                    int due = other == place ? -1 : other < place ? other : other - 1;
                    Check.due("the place of " + spans[other], x.span(spans[other], 4), due);
                }
            }
        }
    }

    /** "if it was the first one, the works at the next one begin with 0" */
    private static void cancelFirst() {
        TrolleyGang x = Rings.withDown(0, 4);
        x.order(0);
        x.order(4);
        x.pass(1);
        Check.due("works at the first one", x.gang(3), 1);
        x.cancel(0);
        Check.due("works at the next one", x.gang(3), 0);
        x.pass(1);
        Check.due("one work does not put it up", x.span(4, 2), 1);
        x.pass(1);
        Check.due("two works do", x.span(4, 2), 0);
        // the only one, then the same one again
        TrolleyGang y = Rings.withDown(0);
        y.order(0);
        y.pass(1);
        y.cancel(0);
        Check.due("works without an order", y.gang(3), 0);
        y.order(0);
        Check.due("works at the same one again", y.gang(3), 0);
        y.pass(1);
        Check.due("still down", y.span(0, 2), 1);
        Check.due("works in all", y.gang(4), 2);
    }

    /** "if it was the first one": of another one the works at the first one stay */
    private static void cancelAnother() {
        TrolleyGang x = Rings.withDown(0);
        x.order(0);
        x.order(4);
        x.order(8);
        x.pass(1);
        x.cancel(4);
        Check.due("works behind cancel of the second", x.gang(3), 1);
        x.cancel(8);
        Check.due("works behind cancel of the last", x.gang(3), 1);
        x.pass(1);
        Check.due("put up by the second work", x.span(0, 2), 0);
    }

    /** "Throws IndexOutOfBoundsException if what is not 0 to 6" */
    private static void gangWhat() {
        for (Twins.Ring ring : RINGS) {
            for (int wrong : new int[] {-1, 7, Twins.LEAST, Twins.GREATEST}) {
                Twins.refusedIndex("gang(" + wrong + ")", ring, x -> x.gang(wrong));
            }
            for (int what = 0; what <= 6; what++) {
                int taken = what;
                Twins.changesNothing("gang(" + what + ")", ring, x -> x.gang(taken));
            }
        }
    }

    /** "1 that of its first order, -1 without one", "6 .. -1 without one" */
    private static void gangWithoutOrders() {
        TrolleyGang x = new TrolleyGang();
        int[] due = {0, -1, 0, 0, 0, 0, -1};
        for (int what = 0; what <= 6; what++) {
            Check.due("new: gang(" + what + ")", x.gang(what), due[what]);
        }
        x.order(0);
        Check.due("the first order, of span 0", x.gang(1), 0);
        Check.due("hours to it", x.gang(6), 0);
        x.pass(1);
        int[] behind = {0, -1, 0, 0, 1, 0, -1};
        for (int what = 0; what <= 6; what++) {
            Check.due("behind the only order: gang(" + what + ")", x.gang(what), behind[what]);
        }
        x.order(23);
        x.cancel(23);
        for (int what = 0; what <= 6; what++) {
            Check.due("behind cancel of the only order: gang(" + what + ")", x.gang(what), behind[what]);
        }
    }

    /** "6 hours till it is at the span of its first order, 0 if it is there" */
    private static void gangHours() {
        int[] hoursBySpans = {0, 1, 1, 1, 1, 2, 2, 2, 2, 3, 3, 3, 3};
        for (int from = 0; from < 24; from++) {
            for (int up = 0; up < 24; up++) {
                TrolleyGang x = new TrolleyGang();
                x.order(from);
                x.pass(3);
                int to = (from + up) % 24;
                x.order(to);
                int hours = hoursBySpans[up <= 12 ? up : 24 - up];
                Check.due("hours from " + from + " to " + to, x.gang(6), hours);
                for (int left = hours; left > 1; left--) {
                    x.pass(1);
                    Check.due("hours left from " + from + " to " + to, x.gang(6), left - 1);
                }
                x.pass(1);
                Check.due("there from " + from, x.gang(0), to);
            }
        }
        // it is there, and the order is not done
        TrolleyGang y = Rings.withDown(4);
        y.order(4);
        y.order(5);
        y.pass(1);
        Check.due("0 if it is there", y.gang(6), 0);
        y.pass(1);
        Check.due("1 to the next one", y.gang(6), 1);
    }

    /** "4 works in all, 5 spans that it put up in all": none, then some, and mending is no putting up */
    private static void gangPutUp() {
        TrolleyGang x = Rings.withDown(0, 1);
        x.order(0);
        x.order(1);
        int[] works = {0, 1, 2, 3, 4, 4};
        int[] putUp = {0, 0, 1, 1, 2, 2};
        for (int hour = 0; hour < 6; hour++) {
            Check.due("works in all behind " + hour, x.gang(4), works[hour]);
            Check.due("put up in all behind " + hour, x.gang(5), putUp[hour]);
            x.pass(1);
        }
        x.order(1);
        x.pass(1);
        Check.due("works in all behind mending", x.gang(4), 5);
        Check.due("put up in all behind mending", x.gang(5), 2);
    }

    /** "Throws IndexOutOfBoundsException if what is not 0 to 8" */
    private static void countWhat() {
        for (Twins.Ring ring : RINGS) {
            for (int wrong : new int[] {-1, 9, Twins.LEAST, Twins.GREATEST}) {
                Twins.refusedIndex("count(" + wrong + ")", ring, x -> x.count(wrong));
            }
            for (int what = 0; what <= 8; what++) {
                int taken = what;
                Twins.changesNothing("count(" + what + ")", ring, x -> x.count(taken));
            }
        }
    }

    /** What a new ring counts: nothing, and it is night. */
    private static void countLeast() {
        TrolleyGang x = new TrolleyGang();
        for (int what = 0; what <= 8; what++) {
            Check.due("new: count(" + what + ")", x.count(what), what == 1 ? 1 : 0);
        }
        x.order(5);
        x.order(6);
        x.pass(3);
        Check.due("coins less than 0", x.count(2), -4);
    }

    /** What counts most: six buses, all spans down, frost of 9 at each */
    private static void countGreatest() {
        TrolleyGang x = Rings.allDown();
        for (int hour = 0; hour < 8; hour++) {
            x.setCold(hour, 3);
        }
        for (int number = 0; number < 6; number++) {
            x.bus(number, number == 5);
        }
        x.pass(3);
        int[] due = {99, 1, 0, 6, 6, 24, 2400, 216, 18};
        for (int what = 0; what <= 8; what++) {
            Check.due("count(" + what + ")", x.count(what), due[what]);
        }
        x.park(0);
        x.park(5);
        x.pass(3);
        Check.due("by day", x.count(1), 0);
        Check.due("those that run", x.count(4), 4);
        Check.due("hours, those that are parked too", x.count(8), 18 + 12);
    }
}
