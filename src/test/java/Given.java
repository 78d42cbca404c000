/** What the tests begin with: names of the numbers, wrong arguments, and objects with items, needs and lots. */
abstract class Given {
    static final int SETUP = 0;
    static final int HOLD = 1;
    static final int LEAST = 2;
    static final int SHELF = 3;
    static final int START = 4;
    static final int TIME = 5;
    static final int SETUP_TIME = 6;
    static final int LEAD = 7;
    /** The most that each of an item's numbers may be. */
    static final int[] MOST = {10000, 100, 1000, 12, 1000, 20, 200, 3};
    /** No item, period, price or value is any of these, nor would be if an int were cut to fewer bits. */
    static final int[] WILD = {Integer.MIN_VALUE, Integer.MIN_VALUE + 1, -65536, -5000, -256, -32, -5, -4, -3, -2, -1,
        1 << 16, (1 << 16) + 1, 1 << 24, 1 << 29, 1 << 30, (1 << 30) + 1, Integer.MAX_VALUE - 1, Integer.MAX_VALUE};

    static LotRules withItems(int periods, int items) {
        LotRules x = new LotRules(periods);
        for (int i = 0; i < items; i++) {
            x.item();
        }
        return x;
    }

    /** From period 1 on. */
    static void needs(LotRules x, int item, int... row) {
        for (int p = 1; p <= row.length; p++) {
            x.need(item, p, row[p - 1]);
        }
    }

    /** From period 1 on. */
    static void lots(LotRules x, int item, int... row) {
        for (int p = 1; p <= row.length; p++) {
            x.make(item, p, row[p - 1]);
        }
    }

    /** As many periods as there are needs, and an item 0 that has them. */
    static LotRules oneItem(int setup, int hold, int shelf, int... needs) {
        LotRules x = withItems(needs.length, 1);
        x.set(0, SETUP, setup);
        x.set(0, HOLD, hold);
        x.set(0, SHELF, shelf);
        needs(x, 0, needs);
        return x;
    }
}
