/** Trolley buses on a ring of wires, and the gang that mends them. */
public final class TrolleyGang {
    private static final int SPANS = 24;
    private static final int HOURS_OF_DAY = 24;
    private static final int COLD_HOURS = 8;
    private static final int SWAN_HOURS = 12;
    private static final int MOST_BUSES = 6;
    private static final int MOST_ORDERS = 6;
    private static final int NONE = -1;

    private static final int MOST_COLD = 3;
    private static final int MOST_FROST = 9;
    private static final int MOST_FARE = 9;
    private static final int WORN_THROUGH = 100;

    private static final int MOST_HOURS_OF_FALLS = 96;
    private static final int MOST_HOURS_OF_ADVISE = 48;
    private static final int MOST_HOURS = 72;

    private static final int WHATS_OF_TOLD = 7;
    private static final int WHATS_OF_SPAN = 5;
    private static final int WHATS_OF_GANG = 7;
    private static final int WHATS_OF_COUNT = 9;

    private final Tables tables;
    private final Ring now;
    // Made once and overwritten for every look ahead, so that no call makes an object.
    private final Ring ahead;

    public TrolleyGang() {
        tables = new Tables();
        now = new Ring();
        ahead = new Ring();
    }

    // ---- tables

    public int setCold(int hour, int cold) throws IndexOutOfBoundsException, IllegalArgumentException {
        if (hour < 0 || hour >= COLD_HOURS) {
            throw new IndexOutOfBoundsException("an hour of the table of cold is 0 to 7");
        }
        if (cold < 0 || cold > MOST_COLD) {
            throw new IllegalArgumentException("cold is 0 to 3");
        }
        int before = tables.colds[hour];
        tables.colds[hour] = cold;
        return before;
    }

    public int setSwan(int hour, int span) throws IndexOutOfBoundsException, IllegalArgumentException {
        if (hour < 0 || hour >= SWAN_HOURS) {
            throw new IndexOutOfBoundsException("an hour of the table of swans is 0 to 11");
        }
        if (span < NONE || span >= SPANS) {
            throw new IllegalArgumentException("the span of a swan is -1 to 23");
        }
        int before = tables.swans[hour];
        tables.swans[hour] = span;
        return before;
    }

    public int setFare(boolean isNight, int coins) throws IllegalArgumentException {
        if (coins < 0 || coins > MOST_FARE) {
            throw new IllegalArgumentException("a fare is 0 to 9");
        }
        int before = tables.fare(isNight);
        if (isNight) {
            tables.fareByNight = coins;
        } else {
            tables.fareByDay = coins;
        }
        return before;
    }

    // ---- buses

    public int bus(int span, boolean hasScraper) throws IndexOutOfBoundsException, IllegalStateException {
        checkSpan(span);
        if (now.busCount >= MOST_BUSES) {
            throw new IllegalStateException("there are 6 buses");
        }
        int number = now.busCount;
        now.buses[number].come(span, hasScraper);
        now.busCount++;
        return number;
    }

    public int fit(int from, int to) throws IndexOutOfBoundsException, IllegalStateException {
        checkBus(from);
        checkBus(to);
        Bus giver = now.buses[from];
        Bus taker = now.buses[to];
        if (!giver.hasScraper || taker.hasScraper) {
            throw new IllegalStateException("a scraper goes from a bus that has one to a bus that has none");
        }
        giver.hasScraper = false;
        taker.hasScraper = true;
        return taker.at;
    }

    public boolean park(int bus) throws IndexOutOfBoundsException {
        checkBus(bus);
        Bus parked = now.buses[bus];
        parked.runs = !parked.runs;
        return parked.runs;
    }

    public int told(int bus, int what) throws IndexOutOfBoundsException {
        checkBus(bus);
        checkWhat(what, WHATS_OF_TOLD);
        Bus asked = now.buses[bus];
        switch (what) {
            case 0: return asked.at;
            case 1: return oneIf(asked.hasScraper);
            case 2: return oneIf(asked.runs);
            case 3: return asked.spansInAll;
            case 4: return asked.faresInAll;
            case 5: return asked.hoursStuck;
            default: return now.wires.spansUpBehind(asked.at);
        }
    }

    public int span(int span, int what) throws IndexOutOfBoundsException {
        checkSpan(span);
        checkWhat(what, WHATS_OF_SPAN);
        switch (what) {
            case 0: return now.wires.worn[span];
            case 1: return now.wires.frost[span];
            case 2: return oneIf(now.wires.isDown(span));
            case 3: return now.busesAt(span);
            default: return now.gang.placeOf(span);
        }
    }

    // ---- the gang

    public int order(int span) throws IndexOutOfBoundsException, IllegalStateException {
        checkSpan(span);
        if (now.gang.orderCount >= MOST_ORDERS) {
            throw new IllegalStateException("there are 6 orders");
        }
        if (now.gang.placeOf(span) != NONE) {
            throw new IllegalStateException("there is an order for this span");
        }
        now.gang.orders[now.gang.orderCount] = span;
        now.gang.orderCount++;
        return now.gang.orderCount;
    }

    public int cancel(int span) throws IndexOutOfBoundsException, IllegalStateException {
        checkSpan(span);
        int place = now.gang.placeOf(span);
        if (place == NONE) {
            throw new IllegalStateException("there is no order for this span");
        }
        now.gang.takeOut(place);
        return place;
    }

    public int gang(int what) throws IndexOutOfBoundsException {
        checkWhat(what, WHATS_OF_GANG);
        Gang asked = now.gang;
        switch (what) {
            case 0: return asked.at;
            case 1: return asked.orderCount > 0 ? asked.orders[0] : NONE;
            case 2: return asked.orderCount;
            case 3: return asked.worksAtFirst;
            case 4: return asked.worksInAll;
            case 5: return asked.putUpInAll;
            default: return asked.hoursToFirst();
        }
    }

    public int count(int what) throws IndexOutOfBoundsException {
        checkWhat(what, WHATS_OF_COUNT);
        return now.tally(what);
    }

    // ---- hours and what would be

    public int pass(int hours) throws IllegalArgumentException {
        checkHours(hours, MOST_HOURS);
        int before = now.coins;
        now.letGoBy(hours, tables);
        return now.coins - before;
    }

    public int falls(int span) throws IndexOutOfBoundsException {
        checkSpan(span);
        ahead.copyFrom(now);
        for (int hours = 0; hours <= MOST_HOURS_OF_FALLS; hours++) {
            if (ahead.wires.isDown(span)) {
                return hours;
            }
            ahead.letGoBy(1, tables);
        }
        return NONE;
    }

    public int foresee(int hours, int what) throws IllegalArgumentException, IndexOutOfBoundsException {
        checkHours(hours, MOST_HOURS);
        if (what != 2 && (what < 5 || what >= WHATS_OF_COUNT)) {
            throw new IndexOutOfBoundsException("what is 2, 5, 6, 7 or 8");
        }
        ahead.copyFrom(now);
        ahead.letGoBy(hours, tables);
        return ahead.tally(what);
    }

    public int advise(int hours) throws IllegalArgumentException {
        checkHours(hours, MOST_HOURS_OF_ADVISE);
        int best = NONE;
        int most = coinsWithOnlyOrder(NONE, hours);
        for (int span = 0; span < SPANS; span++) {
            int coins = coinsWithOnlyOrder(span, hours);
            if (coins > most) {
                most = coins;
                best = span;
            }
        }
        return best;
    }

    public double mean() {
        return (double) now.wires.wornInAll() / SPANS;
    }

    public long digest() {
        long d = 1301;
        for (int what = 0; what < WHATS_OF_COUNT; what++) {
            d = d * 31 + count(what);
        }
        d = digestOfTables(d);
        for (int what = 0; what < WHATS_OF_GANG; what++) {
            d = d * 31 + gang(what);
        }
        for (int number = 0; number < SPANS; number++) {
            for (int what = 0; what < WHATS_OF_SPAN; what++) {
                d = d * 31 + span(number, what);
            }
        }
        for (int number = 0; number < now.busCount; number++) {
            for (int what = 0; what < WHATS_OF_TOLD; what++) {
                d = d * 31 + told(number, what);
            }
        }
        return d;
    }

    private long digestOfTables(long start) {
        long d = start;
        for (int hour = 0; hour < COLD_HOURS; hour++) {
            d = d * 31 + tables.colds[hour];
        }
        for (int hour = 0; hour < SWAN_HOURS; hour++) {
            d = d * 31 + tables.swans[hour];
        }
        d = d * 31 + tables.fareByDay;
        return d * 31 + tables.fareByNight;
    }

    private int coinsWithOnlyOrder(int span, int hours) {
        ahead.copyFrom(now);
        ahead.gang.haveOnly(span);
        ahead.letGoBy(hours, tables);
        return ahead.coins;
    }

    private void checkBus(int bus) {
        if (bus < 0 || bus >= now.busCount) {
            throw new IndexOutOfBoundsException("no such bus");
        }
    }

    private static void checkSpan(int span) {
        if (span < 0 || span >= SPANS) {
            throw new IndexOutOfBoundsException("a span is 0 to 23");
        }
    }

    private static void checkWhat(int what, int whats) {
        if (what < 0 || what >= whats) {
            throw new IndexOutOfBoundsException("no such what");
        }
    }

    private static void checkHours(int hours, int most) {
        if (hours < 1 || hours > most) {
            throw new IllegalArgumentException("too few hours, or too many");
        }
    }

    private static int oneIf(boolean is) {
        return is ? 1 : 0;
    }

    // Remainders of the hour are taken by floorMod, so that they are places in a table even when an object
    // is used on till its hour wraps around.
    private static boolean isNightAt(int hour) {
        int ofDay = Math.floorMod(hour, HOURS_OF_DAY);
        return ofDay <= 5 || ofDay >= 20;
    }

    /** What is set from outside and what no hour changes: so a look ahead needs no copy of it. */
    private static final class Tables {
        private final int[] colds = new int[COLD_HOURS];
        private final int[] swans = new int[SWAN_HOURS];
        private int fareByDay = 2;
        private int fareByNight = 3;

        private Tables() {
            for (int hour = 0; hour < SWAN_HOURS; hour++) {
                swans[hour] = NONE;
            }
        }

        private int fare(boolean isNight) {
            return isNight ? fareByNight : fareByDay;
        }
    }

    /** The wires of all spans. */
    private static final class Wires {
        private static final int WORN_WHEN_PUT_UP = 50;
        private static final int THAW_BY_DAY = 2;

        private final int[] worn = new int[SPANS];
        private final int[] frost = new int[SPANS];

        private void copyFrom(Wires other) {
            System.arraycopy(other.worn, 0, worn, 0, SPANS);
            System.arraycopy(other.frost, 0, frost, 0, SPANS);
        }

        // A span that is down is not worn any more, and it is put up worn by less:
        // so being down needs no mark of its own.
        private boolean isDown(int span) {
            return worn[span] >= WORN_THROUGH;
        }

        private void putUp(int span) {
            worn[span] = WORN_WHEN_PUT_UP;
        }

        private void wear(int span, int by) {
            worn[span] = Math.min(WORN_THROUGH, worn[span] + by);
        }

        private void mend(int span, int by) {
            worn[span] = Math.max(0, worn[span] - by);
        }

        private void freeze(int cold) {
            for (int span = 0; span < SPANS; span++) {
                frost[span] = Math.min(MOST_FROST, frost[span] + cold);
            }
        }

        private void thaw() {
            for (int span = 0; span < SPANS; span++) {
                frost[span] = Math.max(0, frost[span] - THAW_BY_DAY);
            }
        }

        private int spansUpBehind(int span) {
            int up = 0;
            while (up < SPANS && !isDown((span + up + 1) % SPANS)) {
                up++;
            }
            return up;
        }

        private int spansDown() {
            int down = 0;
            for (int span = 0; span < SPANS; span++) {
                down += oneIf(isDown(span));
            }
            return down;
        }

        private int wornInAll() {
            int sum = 0;
            for (int span = 0; span < SPANS; span++) {
                sum += worn[span];
            }
            return sum;
        }

        private int frostInAll() {
            int sum = 0;
            for (int span = 0; span < SPANS; span++) {
                sum += frost[span];
            }
            return sum;
        }
    }

    /** A bus, or the room for one that has not come yet. */
    private static final class Bus {
        private int at;
        private boolean hasScraper;
        private boolean runs;
        private int spansInAll;
        private int faresInAll;
        private int hoursStuck;

        private void come(int span, boolean withScraper) {
            at = span;
            hasScraper = withScraper;
            runs = true;
        }

        private void copyFrom(Bus other) {
            at = other.at;
            hasScraper = other.hasScraper;
            runs = other.runs;
            spansInAll = other.spansInAll;
            faresInAll = other.faresInAll;
            hoursStuck = other.hoursStuck;
        }
    }

    /** The gang with its list of orders. */
    private static final class Gang {
        private static final int SPANS_AN_HOUR = 4;

        private final int[] orders = new int[MOST_ORDERS];
        private int orderCount;
        private int at;
        private int worksAtFirst;
        private int worksInAll;
        private int putUpInAll;

        private void copyFrom(Gang other) {
            System.arraycopy(other.orders, 0, orders, 0, MOST_ORDERS);
            orderCount = other.orderCount;
            at = other.at;
            worksAtFirst = other.worksAtFirst;
            worksInAll = other.worksInAll;
            putUpInAll = other.putUpInAll;
        }

        private int placeOf(int span) {
            for (int place = 0; place < orderCount; place++) {
                if (orders[place] == span) {
                    return place;
                }
            }
            return NONE;
        }

        private void takeOut(int place) {
            for (int next = place + 1; next < orderCount; next++) {
                orders[next - 1] = orders[next];
            }
            orderCount--;
            if (place == 0) {
                worksAtFirst = 0;
            }
        }

        private void haveOnly(int span) {
            orderCount = 0;
            worksAtFirst = 0;
            if (span != NONE) {
                orders[0] = span;
                orderCount = 1;
            }
        }

        private int spansUpwardsToFirst() {
            return (orders[0] - at + SPANS) % SPANS;
        }

        private int hoursToFirst() {
            if (orderCount == 0) {
                return NONE;
            }
            int upwards = spansUpwardsToFirst();
            int shorter = Math.min(upwards, SPANS - upwards);
            return (shorter + SPANS_AN_HOUR - 1) / SPANS_AN_HOUR;
        }

        private void goToFirst() {
            int upwards = spansUpwardsToFirst();
            int downwards = SPANS - upwards;
            int way = upwards <= downwards
                    ? Math.min(upwards, SPANS_AN_HOUR)
                    : -Math.min(downwards, SPANS_AN_HOUR);
            at = (at + way + SPANS) % SPANS;
        }
    }

    /** All that an hour changes. */
    private static final class Ring {
        private static final int WORN_BY_SWAN = 25;
        private static final int SPANS_AN_HOUR = 3;
        private static final int WORN_BY_SCRAPER = 2;
        private static final int COINS_FOR_WORK = 2;
        private static final int MENDED_BY_WORK = 30;
        private static final int MENDED_ENOUGH_BELOW = 30;
        private static final int WORKS_TO_PUT_UP = 2;

        private final Wires wires = new Wires();
        private final Gang gang = new Gang();
        private final Bus[] buses = new Bus[MOST_BUSES];
        private int busCount;
        private int hour;
        private int coins;

        private Ring() {
            for (int number = 0; number < MOST_BUSES; number++) {
                buses[number] = new Bus();
            }
        }

        private void copyFrom(Ring other) {
            wires.copyFrom(other.wires);
            gang.copyFrom(other.gang);
            for (int number = 0; number < other.busCount; number++) {
                buses[number].copyFrom(other.buses[number]);
            }
            busCount = other.busCount;
            hour = other.hour;
            coins = other.coins;
        }

        private void letGoBy(int hours, Tables tables) {
            for (int gone = 0; gone < hours; gone++) {
                letHourGoBy(tables);
            }
        }

        private void letHourGoBy(Tables tables) {
            boolean isNight = isNightAt(hour);
            if (isNight) {
                wires.freeze(tables.colds[Math.floorMod(hour, COLD_HOURS)]);
            } else {
                wires.thaw();
            }
            letSwanFly(tables.swans[Math.floorMod(hour, SWAN_HOURS)]);
            int fare = tables.fare(isNight);
            for (int number = 0; number < busCount; number++) {
                drive(buses[number], fare);
            }
            letGangWork();
            hour++;
        }

        private void letSwanFly(int span) {
            if (span != NONE && !wires.isDown(span)) {
                wires.wear(span, WORN_BY_SWAN);
            }
        }

        private void drive(Bus bus, int fare) {
            if (!bus.runs) {
                return;
            }
            for (int gone = 0; gone < SPANS_AN_HOUR; gone++) {
                int next = (bus.at + 1) % SPANS;
                if (wires.isDown(next)) {
                    bus.hoursStuck++;
                    return;
                }
                bus.at = next;
                bus.spansInAll++;
                bus.faresInAll += fare;
                coins += fare;
                if (bus.hasScraper) {
                    wires.frost[next] = 0;
                }
                wires.wear(next, bus.hasScraper ? WORN_BY_SCRAPER : 1 + wires.frost[next] / 2);
                if (wires.isDown(next)) {
                    return;
                }
            }
        }

        private void letGangWork() {
            if (gang.orderCount == 0) {
                return;
            }
            gang.goToFirst();
            if (gang.at != gang.orders[0]) {
                return;
            }
            coins -= COINS_FOR_WORK;
            gang.worksAtFirst++;
            gang.worksInAll++;
            if (isOrderDoneByWorkAt(gang.at)) {
                gang.takeOut(0);
            }
        }

        private boolean isOrderDoneByWorkAt(int span) {
            if (!wires.isDown(span)) {
                wires.mend(span, MENDED_BY_WORK);
                return wires.worn[span] < MENDED_ENOUGH_BELOW;
            }
            if (gang.worksAtFirst < WORKS_TO_PUT_UP) {
                return false;
            }
            wires.putUp(span);
            gang.putUpInAll++;
            return true;
        }

        private int tally(int what) {
            switch (what) {
                case 0: return hour;
                case 1: return oneIf(isNightAt(hour));
                case 2: return coins;
                case 3: return busCount;
                case 4: return busesRunning();
                case 5: return wires.spansDown();
                case 6: return wires.wornInAll();
                case 7: return wires.frostInAll();
                default: return hoursStuckInAll();
            }
        }

        private int busesAt(int span) {
            int there = 0;
            for (int number = 0; number < busCount; number++) {
                there += oneIf(buses[number].at == span);
            }
            return there;
        }

        private int busesRunning() {
            int running = 0;
            for (int number = 0; number < busCount; number++) {
                running += oneIf(buses[number].runs);
            }
            return running;
        }

        private int hoursStuckInAll() {
            int sum = 0;
            for (int number = 0; number < busCount; number++) {
                sum += buses[number].hoursStuck;
            }
            return sum;
        }
    }
}
