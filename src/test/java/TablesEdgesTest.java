/** Promises 1 to 4, each sentence that names a boundary case. */
final class TablesEdgesTest {
    private static final Twins.Ring[] RINGS = {TrolleyGang::new, () -> Rings.busy(6, 6)};

    public static void main(String[] args) {
        newObject();
        setColdHour();
        setColdTakes();
        setColdRefuses();
        setColdBothWrong();
        setSwanHour();
        setSwanTakes();
        setSwanRefuses();
        setSwanBothWrong();
        setFareTakes();
        setFareRefuses();
        Check.end("TablesEdgesTest");
    }

    /** "Creates a ring without buses, in the hour 0." */
    private static void newObject() {
        TrolleyGang x = new TrolleyGang();
        Check.due("new: the hour", x.count(0), 0);
        Check.due("new: buses", x.count(3), 0);
        Check.due("new: buses that run", x.count(4), 0);
        Twins.refusedIndex("new: told(0, 0)", TrolleyGang::new, ring -> ring.told(0, 0));
        Twins.refusedIndex("new: park(0)", TrolleyGang::new, ring -> ring.park(0));
        Check.due("new: the first bus", x.bus(5, false), 0);
    }

    /** "Throws IndexOutOfBoundsException if hour is not 0 to 7" */
    private static void setColdHour() {
        for (Twins.Ring ring : RINGS) {
            for (int wrong : new int[] {-1, 8, Twins.LEAST, Twins.GREATEST}) {
                Twins.refusedIndex("setCold(" + wrong + ", 0)", ring, x -> x.setCold(wrong, 0));
                Twins.refusedIndex("setCold(" + wrong + ", 3)", ring, x -> x.setCold(wrong, 3));
            }
        }
        // the hours 0 and 7 are taken, and stand for the hours 0 and 23 of the first day
        TrolleyGang x = new TrolleyGang();
        Check.due("setCold(0, 1)", x.setCold(0, 1), 0);
        Check.due("setCold(7, 2)", x.setCold(7, 2), 0);
        x.pass(1);
        Check.due("frost behind the hour 0", x.span(0, 1), 1);
        x.pass(22);
        Check.due("frost ahead of the hour 23", x.span(0, 1), 0);
        x.pass(1);
        Check.due("frost behind the hour 23", x.span(0, 1), 2);
        x.pass(1);
        Check.due("frost behind the hour 24", x.span(0, 1), 3);
    }

    /** "Returns how much it was." */
    private static void setColdTakes() {
        for (int hour = 0; hour < 8; hour++) {
            TrolleyGang x = new TrolleyGang();
            Check.due("setCold(" + hour + ", 3)", x.setCold(hour, 3), 0);
            Check.due("setCold(" + hour + ", 3) again", x.setCold(hour, 3), 3);
            Check.due("setCold(" + hour + ", 0)", x.setCold(hour, 0), 3);
            Check.due("setCold(" + hour + ", 0) again", x.setCold(hour, 0), 0);
            x.setCold(hour, 2);
            for (int other = 0; other < 8; other++) {
                Check.due("only " + hour + " was set: " + other, x.setCold(other, 1), other == hour ? 2 : 0);
            }
        }
    }

    /** "Throws IllegalArgumentException if cold is not 0 to 3" */
    private static void setColdRefuses() {
        for (Twins.Ring ring : RINGS) {
            for (int wrong : new int[] {-1, 4, Twins.LEAST, Twins.GREATEST}) {
                for (int hour : new int[] {0, 3, 7}) {
                    Twins.refusedArgument("setCold(" + hour + ", " + wrong + ")", ring, x -> x.setCold(hour, wrong));
                }
            }
        }
    }

    /** "If several exceptions apply, the one that is named first is thrown." */
    private static void setColdBothWrong() {
        for (int hour : new int[] {-1, 8}) {
            for (int cold : new int[] {-1, 4}) {
                Twins.refusedIndex("setCold(" + hour + ", " + cold + ")", RINGS[1], x -> x.setCold(hour, cold));
            }
        }
    }

    /** "Throws IndexOutOfBoundsException if hour is not 0 to 11" */
    private static void setSwanHour() {
        for (Twins.Ring ring : RINGS) {
            for (int wrong : new int[] {-1, 12, Twins.LEAST, Twins.GREATEST}) {
                Twins.refusedIndex("setSwan(" + wrong + ", -1)", ring, x -> x.setSwan(wrong, -1));
                Twins.refusedIndex("setSwan(" + wrong + ", 23)", ring, x -> x.setSwan(wrong, 23));
            }
        }
        // the hours 0 and 11 are taken
        TrolleyGang x = new TrolleyGang();
        Check.due("setSwan(0, 4)", x.setSwan(0, 4), -1);
        Check.due("setSwan(11, 5)", x.setSwan(11, 5), -1);
        x.pass(1);
        Check.due("worn behind the hour 0", x.span(4, 0), 25);
        x.pass(10);
        Check.due("worn ahead of the hour 11", x.count(6), 25);
        x.pass(1);
        Check.due("worn behind the hour 11", x.span(5, 0), 25);
    }

    /** "span: the span, or -1 for none", "Returns what it was." */
    private static void setSwanTakes() {
        for (int hour = 0; hour < 12; hour++) {
            TrolleyGang x = new TrolleyGang();
            Check.due("setSwan(" + hour + ", 23)", x.setSwan(hour, 23), -1);
            Check.due("setSwan(" + hour + ", 0)", x.setSwan(hour, 0), 23);
            Check.due("setSwan(" + hour + ", -1)", x.setSwan(hour, -1), 0);
            Check.due("setSwan(" + hour + ", -1) again", x.setSwan(hour, -1), -1);
            x.pass(hour + 1);
            Check.due("none flies in the hour " + hour, x.count(6), 0);
            x.setSwan(hour, 7);
            for (int other = 0; other < 12; other++) {
                Check.due("only " + hour + " was set: " + other, x.setSwan(other, 3), other == hour ? 7 : -1);
            }
        }
    }

    /** "Throws IllegalArgumentException if span is not -1 to 23" */
    private static void setSwanRefuses() {
        for (Twins.Ring ring : RINGS) {
            for (int wrong : new int[] {-2, 24, Twins.LEAST, Twins.GREATEST}) {
                for (int hour : new int[] {0, 5, 11}) {
                    Twins.refusedArgument("setSwan(" + hour + ", " + wrong + ")", ring, x -> x.setSwan(hour, wrong));
                }
            }
        }
    }

    /** "If several exceptions apply, the one that is named first is thrown." */
    private static void setSwanBothWrong() {
        for (int hour : new int[] {-1, 12}) {
            for (int span : new int[] {-2, 24}) {
                Twins.refusedIndex("setSwan(" + hour + ", " + span + ")", RINGS[1], x -> x.setSwan(hour, span));
            }
        }
    }

    /** "Returns the fare before.", each 0 to 9, and the one does not touch the other. */
    private static void setFareTakes() {
        for (boolean isNight : new boolean[] {false, true}) {
            TrolleyGang x = new TrolleyGang();
            int first = isNight ? 3 : 2;
            int other = isNight ? 2 : 3;
            Check.due("setFare(" + isNight + ", 0)", x.setFare(isNight, 0), first);
            Check.due("setFare(" + isNight + ", 9)", x.setFare(isNight, 9), 0);
            Check.due("setFare(" + isNight + ", 9) again", x.setFare(isNight, 9), 9);
            Check.due("the other fare", x.setFare(!isNight, 0), other);
            Check.due("the fare that was set", x.setFare(isNight, 1), 9);
        }
        TrolleyGang y = new TrolleyGang();
        y.bus(0, true);
        y.setFare(true, 9);
        Check.due("an hour for 9", y.pass(1), 27);
        y.setFare(true, 0);
        Check.due("an hour for 0", y.pass(1), 0);
        y.pass(4);
        y.setFare(false, 9);
        Check.due("an hour by day for 9", y.pass(1), 27);
        y.setFare(false, 0);
        Check.due("an hour by day for 0", y.pass(1), 0);
    }

    /** "Throws IllegalArgumentException if coins is not 0 to 9" */
    private static void setFareRefuses() {
        for (Twins.Ring ring : RINGS) {
            for (int wrong : new int[] {-1, 10, Twins.LEAST, Twins.GREATEST}) {
                Twins.refusedArgument("setFare(false, " + wrong + ")", ring, x -> x.setFare(false, wrong));
                Twins.refusedArgument("setFare(true, " + wrong + ")", ring, x -> x.setFare(true, wrong));
            }
        }
    }
}
