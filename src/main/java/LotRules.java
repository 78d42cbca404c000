/**
 * Lots of items over periods, on one machine: what is needed, kept, owed, spoilt and paid, what breaks a rule,
 * and for an item alone the lots that cost least. Periods are counted from 1, items from 0.
 */
public final class LotRules {
    public static final long NOTHING = Long.MIN_VALUE;

    private static final int MOST_PERIODS = 12;
    private static final int MOST_ITEMS = 6;
    private static final int MOST_NEED = 1000;
    private static final int MOST_TIMES_PART = 9;
    private static final int MOST_LOT = 5000;
    private static final int MOST_CAPACITY = 10000;

    private static final int NONE_SUCH = -1;
    private static final int OUTSIDE = -2;
    private static final int RING = -3;
    private static final int NO_ROOM = -4;
    /** Told where an item's number would stand, if there is none to tell. */
    private static final int NO_ITEM = -3;

    private static final int SETUP = 0;
    private static final int HOLD = 1;
    private static final int LEAST = 2;
    private static final int SHELF = 3;
    private static final int START = 4;
    private static final int TIME = 5;
    private static final int SETUP_TIME = 6;
    private static final int LEAD = 7;
    private static final int NUMBERS = 8;
    private static final int[] MOST_OF_NUMBER = {10000, 100, 1000, 12, 1000, 20, 200, 3};

    private static final int OVER_PRICE = 0;
    private static final int MOST_OVER = 1;
    private static final int[] MOST_OF_OVER = {100, 10000};

    private static final int SETUP_PRICES = 0;
    private static final int HOLD_PRICES = 1;
    private static final int OVER_PRICES = 2;
    private static final int ALL_PRICES = 3;

    private static final int OWES = 1;
    private static final int BELOW_LEAST = 2;
    private static final int ABOVE_MOST_OVER = 3;

    private final int last;
    private final Item[] items;
    private int itemCount;
    private final int[] capacities;
    private final int[] overs;
    private final Machine machine;
    private final FaultList found;
    private final Alone alone;

    public LotRules(int periods) {
        last = Math.max(1, Math.min(MOST_PERIODS, periods));
        items = new Item[MOST_ITEMS];
        for (int i = 0; i < MOST_ITEMS; i++) {
            items[i] = new Item(last);
        }
        itemCount = 0;
        capacities = new int[last + 1];
        for (int p = 1; p <= last; p++) {
            capacities[p] = MOST_CAPACITY;
        }
        overs = new int[MOST_OF_OVER.length];
        machine = new Machine(last);
        found = new FaultList(last);
        alone = new Alone(last);
    }

    public int item() {
        if (itemCount >= MOST_ITEMS) {
            return NO_ROOM;
        }
        itemCount++;
        return itemCount - 1;
    }

    public int set(int item, int what, int v) {
        if (!isItem(item)) {
            return NONE_SUCH;
        }
        if (what < 0 || what >= NUMBERS) {
            return OUTSIDE;
        }
        return replace(items[item].numbers, what, v, MOST_OF_NUMBER[what]);
    }

    public int need(int item, int period, int v) {
        if (!isItem(item) || !isPeriod(period)) {
            return NONE_SUCH;
        }
        return replace(items[item].needs, period, v, MOST_NEED);
    }

    public int part(int item, int of, int n) {
        if (!isItem(item) || !isItem(of)) {
            return NONE_SUCH;
        }
        if (n < 0 || n > MOST_TIMES_PART) {
            return OUTSIDE;
        }
        if (n > 0 && goesInto(of, item)) {
            return RING;
        }
        return replace(items[item].timesPartOf, of, n, MOST_TIMES_PART);
    }

    public int make(int item, int period, int v) {
        if (!isItem(item) || !isPeriod(period)) {
            return NONE_SUCH;
        }
        return replace(items[item].lots, period, v, MOST_LOT);
    }

    public int capacity(int period, int v) {
        if (!isPeriod(period)) {
            return NONE_SUCH;
        }
        return replace(capacities, period, v, MOST_CAPACITY);
    }

    public int over(int what, int v) {
        if (what != OVER_PRICE && what != MOST_OVER) {
            return OUTSIDE;
        }
        return replace(overs, what, v, MOST_OF_OVER[what]);
    }

    public int gross(int item, int period) {
        if (!isItem(item) || !isPeriod(period)) {
            return NONE_SUCH;
        }
        return grossOf(item, period);
    }

    public long stock(int item, int period) {
        if (!isItem(item) || !isPeriodOrBeginning(period)) {
            return NOTHING;
        }
        runItem(item);
        return items[item].store.stocks[period];
    }

    public int spoilt(int item, int period) {
        if (!isItem(item) || !isPeriod(period)) {
            return NONE_SUCH;
        }
        runItem(item);
        return items[item].store.losses[period];
    }

    public int isSetUp(int item, int period) {
        if (!isItem(item) || !isPeriod(period)) {
            return NONE_SUCH;
        }
        machine.follow(items, itemCount);
        return machine.setsUp(item, period) ? 1 : 0;
    }

    public int stands(int period) {
        if (!isPeriodOrBeginning(period)) {
            return NONE_SUCH;
        }
        machine.follow(items, itemCount);
        return machine.standing[period];
    }

    public long time(int period) {
        if (!isPeriod(period)) {
            return NOTHING;
        }
        machine.follow(items, itemCount);
        return timeOf(period);
    }

    public long price(int what) {
        return isPrice(what) ? priceOf(what) : NOTHING;
    }

    public int faults() {
        findFaults();
        return found.size;
    }

    public int fault(int k, int what) {
        findFaults();
        if (k < 0 || k >= found.size) {
            return NONE_SUCH;
        }
        if (what < 0 || what >= FaultList.COLUMNS) {
            return OUTSIDE;
        }
        return found.cell(k, what);
    }

    public long best(int item) {
        if (!isItem(item)) {
            return NOTHING;
        }
        alone.plan(items[item]);
        return alone.costs[1];
    }

    public int lot(int item, int period) {
        if (!isItem(item) || !isPeriod(period)) {
            return NONE_SUCH;
        }
        alone.plan(items[item]);
        return alone.amounts[period];
    }

    public long from(int item, int period) {
        if (!isItem(item) || period < 1 || period > last + 1) {
            return NOTHING;
        }
        alone.plan(items[item]);
        return alone.costs[period];
    }

    public long share(int what, int by) throws ArithmeticException {
        if (!isPrice(what) || !isPrice(by)) {
            return NOTHING;
        }
        long divisor = priceOf(by);
        if (divisor == 0) {
            throw new ArithmeticException("a share of a price that is 0");
        }
        return 1000 * priceOf(what) / divisor;
    }

    private boolean isItem(int item) {
        return item >= 0 && item < itemCount;
    }

    private boolean isPeriod(int period) {
        return period >= 1 && period <= last;
    }

    private boolean isPeriodOrBeginning(int period) {
        return period == 0 || isPeriod(period);
    }

    private static boolean isPrice(int what) {
        return what >= SETUP_PRICES && what <= ALL_PRICES;
    }

    /** The caller has looked at the index; the value alone may still be refused here. */
    private static int replace(int[] row, int at, int v, int most) {
        if (v < 0 || v > most) {
            return OUTSIDE;
        }
        int was = row[at];
        row[at] = v;
        return was;
    }

    /** Whether an item is the goal, or a part of it by however many others. */
    private boolean goesInto(int item, int goal) {
        int reached = 1 << item;
        // A chain without a ring has fewer steps than there are items, so as many rounds reach all.
        for (int round = 0; round < itemCount; round++) {
            for (int i = 0; i < itemCount; i++) {
                if ((reached & (1 << i)) != 0) {
                    reached |= items[i].wholes();
                }
            }
        }
        return (reached & (1 << goal)) != 0;
    }

    private int grossOf(int item, int period) {
        int sum = items[item].needs[period];
        for (int whole = 0; whole < itemCount; whole++) {
            sum += items[item].timesPartOf[whole] * items[whole].lots[period];
        }
        return sum;
    }

    private void runItem(int item) {
        Item it = items[item];
        it.store.begin(it.numbers[START]);
        for (int p = 1; p <= last; p++) {
            it.store.pass(p, it.coming(p), grossOf(item, p), it.numbers[SHELF]);
        }
    }

    /** Holds once the machine has been followed. */
    private long timeOf(int period) {
        long sum = 0;
        for (int i = 0; i < itemCount; i++) {
            sum += items[i].lots[period] * items[i].numbers[TIME];
            if (machine.setsUp(i, period)) {
                sum += items[i].numbers[SETUP_TIME];
            }
        }
        return sum;
    }

    /** Holds once the machine has been followed. */
    private long overOf(int period) {
        return Math.max(0L, timeOf(period) - capacities[period]);
    }

    private long priceOf(int what) {
        switch (what) {
            case SETUP_PRICES:
                return setUpPrices();
            case HOLD_PRICES:
                return holdPrices();
            case OVER_PRICES:
                return overPrices();
            default:
                return setUpPrices() + holdPrices() + overPrices();
        }
    }

    private long setUpPrices() {
        machine.follow(items, itemCount);
        long sum = 0;
        for (int p = 1; p <= last; p++) {
            for (int i = 0; i < itemCount; i++) {
                if (machine.setsUp(i, p)) {
                    sum += items[i].numbers[SETUP];
                }
            }
        }
        return sum;
    }

    private long holdPrices() {
        long sum = 0;
        for (int i = 0; i < itemCount; i++) {
            runItem(i);
            for (int p = 1; p <= last; p++) {
                sum += (long) items[i].numbers[HOLD] * Math.max(0, items[i].store.stocks[p]);
            }
        }
        return sum;
    }

    private long overPrices() {
        machine.follow(items, itemCount);
        long sum = 0;
        for (int p = 1; p <= last; p++) {
            sum += overs[OVER_PRICE] * overOf(p);
        }
        return sum;
    }

    private void findFaults() {
        for (int i = 0; i < itemCount; i++) {
            runItem(i);
        }
        machine.follow(items, itemCount);
        found.size = 0;
        for (int p = 1; p <= last; p++) {
            findOwing(p);
            findBelowLeast(p);
            findAboveMostOver(p);
        }
    }

    private void findOwing(int period) {
        for (int i = 0; i < itemCount; i++) {
            int owed = items[i].store.owedAt(period);
            if (owed > 0) {
                found.put(OWES, period, i, owed);
            }
        }
    }

    private void findBelowLeast(int period) {
        for (int i = 0; i < itemCount; i++) {
            int made = items[i].lots[period];
            int least = items[i].numbers[LEAST];
            if (made > 0 && made < least) {
                found.put(BELOW_LEAST, period, i, least - made);
            }
        }
    }

    private void findAboveMostOver(int period) {
        long above = overOf(period) - overs[MOST_OVER];
        if (above > 0) {
            found.put(ABOVE_MOST_OVER, period, NO_ITEM, (int) above);
        }
    }

    /** What the caller has told of an item; rows by period leave their place 0 empty. */
    private static final class Item {
        final int[] numbers;
        final int[] needs;
        final int[] lots;
        final int[] timesPartOf;
        final Store store;

        Item(int periods) {
            numbers = new int[NUMBERS];
            needs = new int[periods + 1];
            lots = new int[periods + 1];
            timesPartOf = new int[MOST_ITEMS];
            store = new Store(periods);
        }

        /** The items of which this one is a part itself, as bits. */
        int wholes() {
            int bits = 0;
            for (int i = 0; i < MOST_ITEMS; i++) {
                if (timesPartOf[i] > 0) {
                    bits |= 1 << i;
                }
            }
            return bits;
        }

        int coming(int period) {
            int made = period - numbers[LEAD];
            return made >= 1 ? lots[made] : 0;
        }
    }

    /** An item's way through the periods, worked out anew for every question. */
    private static final class Store {
        /** What is there at each period's end less what is owed: one of the two is always 0. */
        final int[] stocks;
        final int[] losses;
        /** What is left of the lot that came in each period, the start being that of period 0. */
        final int[] left;

        Store(int periods) {
            stocks = new int[periods + 1];
            losses = new int[periods + 1];
            left = new int[periods + 1];
        }

        void begin(int start) {
            stocks[0] = start;
            left[0] = start;
        }

        void pass(int period, int came, int wanted, int shelf) {
            left[period] = came;
            take(period, wanted + owedAt(period - 1));
            losses[period] = shelf > 0 && shelf <= period ? spoil(period - shelf) : 0;
            stocks[period] = stocks[period - 1] + came - wanted - losses[period];
        }

        int owedAt(int period) {
            return Math.max(0, -stocks[period]);
        }

        private void take(int until, int amount) {
            int lacking = amount;
            for (int p = 0; p <= until; p++) {
                int taken = Math.min(left[p], lacking);
                left[p] -= taken;
                lacking -= taken;
            }
        }

        private int spoil(int cameIn) {
            int amount = left[cameIn];
            left[cameIn] = 0;
            return amount;
        }
    }

    /** The machine's way through the periods, worked out anew for every question. */
    private static final class Machine {
        /** The items that are set up in each period, as bits. */
        final int[] setUps;
        final int[] standing;

        Machine(int periods) {
            setUps = new int[periods + 1];
            standing = new int[periods + 1];
            standing[0] = NO_ITEM;
        }

        void follow(Item[] items, int count) {
            for (int p = 1; p < standing.length; p++) {
                int before = standing[p - 1];
                setUps[p] = 0;
                standing[p] = before;
                for (int i = 0; i < count; i++) {
                    // The item that stands comes first, so any other one behind it has the machine last.
                    if (i != before && items[i].lots[p] > 0) {
                        setUps[p] |= 1 << i;
                        standing[p] = i;
                    }
                }
            }
        }

        boolean setsUp(int item, int period) {
            return (setUps[period] & (1 << item)) != 0;
        }
    }

    /** The faults in their order: kind, period, item and amount of each. */
    private static final class FaultList {
        static final int COLUMNS = 4;
        private static final int MOST_IN_PERIOD = 2 * MOST_ITEMS + 1;

        int size;
        private final int[] cells;

        FaultList(int periods) {
            size = 0;
            cells = new int[periods * MOST_IN_PERIOD * COLUMNS];
        }

        void put(int kind, int period, int item, int amount) {
            int at = size * COLUMNS;
            cells[at] = kind;
            cells[at + 1] = period;
            cells[at + 2] = item;
            cells[at + 3] = amount;
            size++;
        }

        int cell(int row, int column) {
            return cells[row * COLUMNS + column];
        }
    }

    /** The best row of an item alone, worked out anew for every question. */
    private static final class Alone {
        private final int last;
        private final int[] nets;
        /** What the best row of the nets from each period on costs; behind the last period 0. */
        final long[] costs;
        /** The last period that a lot in this one is for; below this one if nothing is made in it. */
        private final int[] untils;
        final int[] amounts;

        Alone(int periods) {
            last = periods;
            nets = new int[periods + 1];
            costs = new long[periods + 2];
            untils = new int[periods + 1];
            amounts = new int[periods + 1];
        }

        void plan(Item item) {
            findNets(item.needs, item.numbers[START]);
            for (int p = last; p >= 1; p--) {
                choose(p, item.numbers[SETUP], item.numbers[HOLD], item.numbers[SHELF]);
            }
            followChoices();
        }

        private void findNets(int[] needs, int start) {
            int left = start;
            for (int p = 1; p <= last; p++) {
                int taken = Math.min(left, needs[p]);
                nets[p] = needs[p] - taken;
                left -= taken;
            }
        }

        private void choose(int period, int setup, int hold, int shelf) {
            // Making nothing, where that may be, is what every lot has to undercut.
            long least = nets[period] == 0 ? costs[period + 1] : Long.MAX_VALUE;
            int until = period - 1;
            int end = shelf > 0 ? Math.min(last, period + shelf) : last;
            long paid = setup;
            for (int q = period; q <= end; q++) {
                paid += (long) hold * nets[q] * (q - period);
                long cost = paid + costs[q + 1];
                // Among lots that cost the same the longest one is due.
                boolean longer = cost == least && until >= period;
                if (cost < least || longer) {
                    least = cost;
                    until = q;
                }
            }
            costs[period] = least;
            untils[period] = until;
        }

        private void followChoices() {
            int next = 1;
            for (int p = 1; p <= last; p++) {
                amounts[p] = 0;
                if (p == next) {
                    amounts[p] = sumOfNets(p, untils[p]);
                    next = Math.max(p, untils[p]) + 1;
                }
            }
        }

        private int sumOfNets(int first, int until) {
            int sum = 0;
            for (int p = first; p <= until; p++) {
                sum += nets[p];
            }
            return sum;
        }
    }
}
