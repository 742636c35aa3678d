/** Promises 10 to 13: orders, the gang, and what is counted. */
final class GangTest {
    public static void main(String[] args) {
        order();
        cancel();
        worksBehindCancel();
        gang();
        hoursToFirst();
        count();
        nights();
        Check.end("GangTest");
    }

    private static void order() {
        TrolleyGang x = new TrolleyGang();
        Check.refusedIndex(x, "order(-1)", () -> x.order(-1));
        Check.refusedIndex(x, "order(24)", () -> x.order(24));
        int[] spans = {23, 0, 7, 3, 12, 1};
        for (int place = 0; place < 6; place++) {
            int span = spans[place];
            Check.due("order(" + span + ")", x.order(span), place + 1);
            Check.due("span(" + span + ", 4)", x.span(span, 4), place);
            if (place < 5) {
                Check.refusedState(x, "order(" + span + ") twice", () -> x.order(span));
            }
        }
        Check.refusedState(x, "order(2) as a seventh", () -> x.order(2));
        Check.refusedState(x, "order(0) as a seventh and twice", () -> x.order(0));
        Check.refusedIndex(x, "order(24) as a seventh", () -> x.order(24));
        Check.due("gang(2)", x.gang(2), 6);
    }

    private static void cancel() {
        TrolleyGang x = new TrolleyGang();
        Check.refusedState(x, "cancel(0) without orders", () -> x.cancel(0));
        int[] spans = {23, 0, 7, 3, 12, 1};
        for (int span : spans) {
            x.order(span);
        }
        Check.refusedIndex(x, "cancel(-1)", () -> x.cancel(-1));
        Check.refusedIndex(x, "cancel(24)", () -> x.cancel(24));
        Check.refusedState(x, "cancel(2)", () -> x.cancel(2));
        Check.due("cancel(7)", x.cancel(7), 2);
        Check.refusedState(x, "cancel(7) twice", () -> x.cancel(7));
        Check.due("span(3, 4)", x.span(3, 4), 2);
        Check.due("cancel(1), the last", x.cancel(1), 4);
        Check.due("cancel(23), the first", x.cancel(23), 0);
        Check.due("gang(1)", x.gang(1), 0);
        Check.due("gang(2)", x.gang(2), 3);
        Check.due("order(7) at the end again", x.order(7), 4);
        Check.due("span(7, 4)", x.span(7, 4), 3);
    }

    private static void worksBehindCancel() {
        TrolleyGang x = Rings.withDown(0);
        x.order(0);
        x.order(3);
        x.pass(1);
        Check.due("gang(3)", x.gang(3), 1);
        x.cancel(3);
        Check.due("gang(3) behind cancel of another", x.gang(3), 1);
        x.order(5);
        x.cancel(0);
        Check.due("gang(3) behind cancel of the first", x.gang(3), 0);
        Check.due("gang(4) behind cancel of the first", x.gang(4), 1);
        x.cancel(5);
        x.order(0);
        x.pass(1);
        Check.due("span(0, 2): a new order has no works", x.span(0, 2), 1);
        x.pass(1);
        Check.due("span(0, 2) behind two works", x.span(0, 2), 0);
    }

    private static void gang() {
        TrolleyGang x = Rings.withDown(6);
        Check.refusedIndex(x, "gang(-1)", () -> x.gang(-1));
        Check.refusedIndex(x, "gang(7)", () -> x.gang(7));
        x.order(6);
        x.order(22);
        int[][] due = {
            {0, 6, 2, 0, 0, 0, 2},
            {4, 6, 2, 0, 0, 0, 1},
            {6, 6, 2, 1, 1, 0, 0},
            {6, 22, 1, 0, 2, 1, 2},
            {2, 22, 1, 0, 2, 1, 1},
            {22, -1, 0, 0, 3, 1, -1},
            {22, -1, 0, 0, 3, 1, -1},
        };
        for (int hours = 0; hours < due.length; hours++) {
            for (int what = 0; what < 7; what++) {
                Check.due("behind " + hours + " hours gang(" + what + ")", x.gang(what), due[hours][what]);
            }
            x.pass(1);
        }
        Check.due("count(2) behind three works", x.count(2), -6);
    }

    private static void hoursToFirst() {
        for (int span = 0; span < 24; span++) {
            TrolleyGang x = new TrolleyGang();
            x.order(span);
            int way = Math.min(span, 24 - span);
            int hours = way == 0 ? 0 : way <= 4 ? 1 : way <= 8 ? 2 : 3;
            Check.due("gang(6) with order(" + span + ")", x.gang(6), hours);
        }
    }

    private static void count() {
        TrolleyGang x = Rings.frozenAndWorn();
        Check.refusedIndex(x, "count(-1)", () -> x.count(-1));
        Check.refusedIndex(x, "count(9)", () -> x.count(9));
        Rings.swans(x, 2, 1);
        x.bus(1, false);
        x.bus(1, true);
        x.bus(5, true);
        x.bus(5, true);
        x.park(3);
        // the hour 4: buses 0 and 1 are stuck, bus 2 comes to 6, 7, 8 for 3 coins each
        x.pass(1);
        int[] due = {5, 1, 9, 4, 3, 1, 106, 24 * 9 - 27, 2};
        for (int what = 0; what < 9; what++) {
            Check.due("count(" + what + ")", x.count(what), due[what]);
        }
    }

    private static void nights() {
        TrolleyGang x = new TrolleyGang();
        for (int hour = 0; hour < 50; hour++) {
            int ofDay = hour % 24;
            int night = ofDay < 6 || ofDay > 19 ? 1 : 0;
            Check.due("count(0)", x.count(0), hour);
            Check.due("count(1) in the hour " + hour, x.count(1), night);
            x.pass(1);
        }
    }
}
