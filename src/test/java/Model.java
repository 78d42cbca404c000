import java.util.ArrayList;
import java.util.List;

/**
 * The document said a second time, in another way: batches in a list, the machine's order written out, and every row
 * of lots tried. ModelTest compares the class with it.
 */
final class Model {
    private static final int[] MOST = {10000, 100, 1000, 12, 1000, 20, 200, 3};

    private final int last;
    private int count = 0;
    private final int[][] numbers = new int[6][8];
    private final int[][] needs = new int[6][14];
    private final int[][] parts = new int[6][6];
    private final int[][] lots = new int[6][14];
    private final int[] capacities = new int[14];
    private int overPrice = 0;
    private int mostOver = 0;

    Model(int periods) {
        last = periods < 1 ? 1 : periods > 12 ? 12 : periods;
        java.util.Arrays.fill(capacities, 10000);
    }

    int item() {
        return count == 6 ? -4 : count++;
    }

    int set(int item, int what, int v) {
        if (noItem(item)) return -1;
        if (what < 0 || what > 7 || v < 0 || v > MOST[what]) return -2;
        int was = numbers[item][what];
        numbers[item][what] = v;
        return was;
    }

    int need(int item, int period, int v) {
        if (noItem(item) || noPeriod(period)) return -1;
        if (v < 0 || v > 1000) return -2;
        int was = needs[item][period];
        needs[item][period] = v;
        return was;
    }

    int part(int item, int of, int n) {
        if (noItem(item) || noItem(of)) return -1;
        if (n < 0 || n > 9) return -2;
        if (n > 0 && climbs(of, item)) return -3;
        int was = parts[item][of];
        parts[item][of] = n;
        return was;
    }

    private boolean climbs(int at, int goal) {
        if (at == goal) return true;
        for (int up = 0; up < count; up++) {
            if (parts[at][up] > 0 && climbs(up, goal)) return true;
        }
        return false;
    }

    int make(int item, int period, int v) {
        if (noItem(item) || noPeriod(period)) return -1;
        if (v < 0 || v > 5000) return -2;
        int was = lots[item][period];
        lots[item][period] = v;
        return was;
    }

    int capacity(int period, int v) {
        if (noPeriod(period)) return -1;
        if (v < 0 || v > 10000) return -2;
        int was = capacities[period];
        capacities[period] = v;
        return was;
    }

    int over(int what, int v) {
        if (what == 0 && v >= 0 && v <= 100) {
            int was = overPrice;
            overPrice = v;
            return was;
        }
        if (what == 1 && v >= 0 && v <= 10000) {
            int was = mostOver;
            mostOver = v;
            return was;
        }
        return -2;
    }

    int gross(int item, int period) {
        if (noItem(item) || noPeriod(period)) return -1;
        int sum = needs[item][period];
        for (int whole = 0; whole < count; whole++) sum += parts[item][whole] * lots[whole][period];
        return sum;
    }

    long stock(int item, int period) {
        if (noItem(item) || period != 0 && noPeriod(period)) return LotRules.NOTHING;
        int[] end = endOf(item, period);
        return end[0] - end[1];
    }

    int spoilt(int item, int period) {
        return noItem(item) || noPeriod(period) ? -1 : endOf(item, period)[2];
    }

    /** What is there, owed and spoilt at a period's end. */
    private int[] endOf(int item, int period) {
        List<int[]> batches = new ArrayList<>();
        batches.add(new int[] {0, numbers[item][4]});
        int owed = 0;
        int lost = 0;
        for (int p = 1; p <= period; p++) {
            for (int made = 1; made <= last; made++) {
                if (made + numbers[item][7] == p) batches.add(new int[] {p, lots[item][made]});
            }
            owed += gross(item, p);
            while (owed > 0 && !batches.isEmpty()) {
                int[] first = batches.get(0);
                int taken = Math.min(first[1], owed);
                first[1] -= taken;
                owed -= taken;
                if (first[1] == 0) batches.remove(0);
            }
            lost = 0;
            for (int[] batch : batches) {
                if (numbers[item][3] > 0 && batch[0] + numbers[item][3] == p) {
                    lost += batch[1];
                    batch[1] = 0;
                }
            }
        }
        int there = 0;
        for (int[] batch : batches) there += batch[1];
        return new int[] {there, owed, lost};
    }

    /** The items in the order in which a period makes them, for which the machine stood before. */
    private List<Integer> orderOf(int period, int stood) {
        List<Integer> order = new ArrayList<>();
        if (stood >= 0 && lots[stood][period] > 0) order.add(stood);
        for (int i = 0; i < count; i++) {
            if (i != stood && lots[i][period] > 0) order.add(i);
        }
        return order;
    }

    int stands(int period) {
        if (period != 0 && noPeriod(period)) return -1;
        int stood = -3;
        for (int p = 1; p <= period; p++) {
            List<Integer> order = orderOf(p, stood);
            if (!order.isEmpty()) stood = order.get(order.size() - 1);
        }
        return stood;
    }

    int isSetUp(int item, int period) {
        if (noItem(item) || noPeriod(period)) return -1;
        int stood = stands(period - 1);
        return item != stood && orderOf(period, stood).contains(item) ? 1 : 0;
    }

    long time(int period) {
        if (noPeriod(period)) return LotRules.NOTHING;
        long sum = 0;
        for (int i = 0; i < count; i++) {
            sum += (long) lots[i][period] * numbers[i][5] + isSetUp(i, period) * numbers[i][6];
        }
        return sum;
    }

    private long overOf(int period) {
        return Math.max(0, time(period) - capacities[period]);
    }

    long price(int what) {
        if (what < 0 || what > 3) return LotRules.NOTHING;
        long[] sums = new long[3];
        for (int p = 1; p <= last; p++) {
            for (int i = 0; i < count; i++) {
                sums[0] += isSetUp(i, p) * numbers[i][0];
                sums[1] += Math.max(0, stock(i, p)) * numbers[i][1];
            }
            sums[2] += overOf(p) * overPrice;
        }
        return what == 3 ? sums[0] + sums[1] + sums[2] : sums[what];
    }

    private List<int[]> allFaults() {
        List<int[]> all = new ArrayList<>();
        for (int p = 1; p <= last; p++) {
            for (int i = 0; i < count; i++) {
                int owed = endOf(i, p)[1];
                if (owed > 0) all.add(new int[] {1, p, i, owed});
            }
            for (int i = 0; i < count; i++) {
                int lacks = numbers[i][2] - lots[i][p];
                if (lots[i][p] != 0 && lacks > 0) all.add(new int[] {2, p, i, lacks});
            }
            if (overOf(p) > mostOver) all.add(new int[] {3, p, -3, (int) overOf(p) - mostOver});
        }
        return all;
    }

    int faults() {
        return allFaults().size();
    }

    int fault(int k, int what) {
        List<int[]> all = allFaults();
        if (k < 0 || k >= all.size()) return -1;
        return what < 0 || what > 3 ? -2 : all.get(k)[what];
    }

    long best(int item) {
        return from(item, 1);
    }

    long from(int item, int period) {
        if (noItem(item) || period < 1 || period > last + 1) return LotRules.NOTHING;
        int[] nets = nets(item);
        return costOf(item, nets, period, bestRow(item, nets, period));
    }

    int lot(int item, int period) {
        if (noItem(item) || noPeriod(period)) return -1;
        int[] nets = nets(item);
        int row = bestRow(item, nets, 1);
        int sum = 0;
        for (int p = 1; p <= last; p++) {
            if (nets[p] > 0 && giver(row, p) == period) sum += nets[p];
        }
        return sum;
    }

    private int[] nets(int item) {
        int[] nets = needs[item].clone();
        int start = numbers[item][4];
        for (int p = 1; p <= last; p++) {
            for (; start > 0 && nets[p] > 0; start--) nets[p]--;
        }
        return nets;
    }

    /**
     * Rows are numbers whose highest bit is period 1. The rule for equals goes without a lot wherever it may, period
     * by period, which is the lowest number among the cheapest.
     */
    private int bestRow(int item, int[] nets, int first) {
        int best = -1;
        long least = Long.MAX_VALUE;
        for (int row = 0; row < 1 << (last - first + 1); row++) {
            long cost = costOf(item, nets, first, row);
            if (cost >= 0 && cost < least) {
                least = cost;
                best = row;
            }
        }
        return best;
    }

    /** -1 for a row that cannot give every net. */
    private long costOf(int item, int[] nets, int first, int row) {
        long cost = (long) Integer.bitCount(row) * numbers[item][0];
        int giver = 0;
        for (int p = first; p <= last; p++) {
            if (hasLot(row, p)) giver = p;
            if (nets[p] == 0) continue;
            int shelf = numbers[item][3];
            if (giver == 0 || shelf > 0 && p - giver > shelf) return -1;
            cost += (long) nets[p] * numbers[item][1] * (p - giver);
        }
        return cost;
    }

    private boolean hasLot(int row, int period) {
        return (row >> (last - period) & 1) != 0;
    }

    private int giver(int row, int period) {
        int p = period;
        while (p > 0 && !hasLot(row, p)) p--;
        return p;
    }

    long share(int what, int by) {
        if (what < 0 || what > 3 || by < 0 || by > 3) return LotRules.NOTHING;
        if (price(by) == 0) throw new ArithmeticException();
        return price(what) * 1000 / price(by);
    }

    private boolean noItem(int item) {
        return item < 0 || item >= count;
    }

    private boolean noPeriod(int period) {
        return period < 1 || period > last;
    }
}
