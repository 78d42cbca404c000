import java.util.Arrays;

/**
 * The rule of an item ALONE and its BEST ROW, sentence by sentence, with promises 18 to 20: each sentence that names
 * an edge has a test of its own here, with the sentence above it.
 */
public final class RowsTest extends Given {
    private static final Check check = new Check();

    public static void main(String[] args) {
        needsAlone();
        noLeadNoLeastNoMachine();
        lessStart();
        eachLotPaysSetUp();
        shelfIsTheMostThatALotIsBefore();
        shelf0IsNoLimit();
        startDoesNotSpoil();
        holdForEachPeriod();
        nothingIsMadeWhereNetIs0();
        asGreatAsMayBe();
        soOnBehindQ();
        netsOf0InsideALot();
        costsFromAPeriodOn();
        aSinglePeriod();
        twelvePeriodsAtTheMost();
        everySmallItem();
        check.end("RowsTest");
    }

    private static void row(String what, LotRules x, long cost, int... lots) {
        check.same(what + ": best(0)", x.best(0), cost);
        for (int p = 1; p <= lots.length; p++) {
            check.same(what + ": lot(0, " + p + ")", x.lot(0, p), lots[p - 1]);
        }
    }

    /** "ALONE, an item has its NEEDS alone": no GROSS of other items' lots, and not the lots that are made. */
    private static void needsAlone() {
        LotRules x = withItems(3, 2);
        x.set(0, SETUP, 5);
        x.set(0, HOLD, 1);
        needs(x, 0, 0, 2, 1);
        row("needs", x, 6, 0, 3, 0);
        x.part(0, 1, 9);
        lots(x, 1, 100, 100, 100);
        row("a part of another one", x, 6, 0, 3, 0);
        lots(x, 0, 5000, 0, 5000);
        row("with lots made", x, 6, 0, 3, 0);
        check.same("best(1)", x.best(1), 0);
        check.same("lot(1, 1)", x.lot(1, 1), 0);
        check.same("the lots made stand", x.make(0, 1, 0), 5000);
    }

    /** "no LEAD, LEAST, machine". */
    private static void noLeadNoLeastNoMachine() {
        for (int what : new int[] {LEAST, TIME, SETUP_TIME, LEAD}) {
            LotRules x = oneItem(5, 1, 0, 4, 1, 3);
            x.set(0, what, MOST[what]);
            row("number " + what + " at its most", x, 11, 5, 0, 3);
        }
        LotRules x = oneItem(5, 1, 0, 4, 1, 3);
        x.set(0, TIME, 20);
        x.over(0, 100);
        for (int p = 1; p <= 3; p++) {
            x.capacity(p, 0);
        }
        row("no capacity", x, 11, 5, 0, 3);
        // The machine would carry the set-up over; a row pays it for each lot.
        lots(x, 0, 4, 1, 3);
        check.same("price(0), carried over", x.price(0), 5);
        x.set(0, HOLD, 100);
        row("nothing is carried over", x, 15, 4, 1, 3);
    }

    /** "less START (taken from the first ones) ..: NET". Lots show the NETS, where keeping is too dear. */
    private static void lessStart() {
        int[] needs = {3, 0, 4, 2};
        for (int start = 0; start <= 11; start++) {
            LotRules x = oneItem(1, 100, 0, needs);
            x.set(0, START, start);
            int left = start;
            int lots = 0;
            for (int p = 1; p <= 4; p++) {
                int net = Math.max(0, needs[p - 1] - left);
                left = Math.max(0, left - needs[p - 1]);
                lots += net > 0 ? 1 : 0;
                check.same("lot(0, " + p + ") at start " + start, x.lot(0, p), net);
            }
            check.same("best(0) at start " + start, x.best(0), lots);
        }
        LotRules x = oneItem(1, 1, 0, 1000, 1);
        x.set(0, START, 1000);
        row("start at its most", x, 1, 0, 1);
        x.need(0, 2, 0);
        row("start for all", x, 0, 0, 0);
    }

    /** "A ROW of LOTS, each of which pays SETUP". */
    private static void eachLotPaysSetUp() {
        for (int last = 1; last <= 12; last++) {
            int[] needs = new int[last];
            Arrays.fill(needs, 1000);
            LotRules x = oneItem(10000, 100, 0, needs);
            row("a lot in each of " + last, x, 10000L * last, needs);
            x.set(0, SETUP, 0);
            row("for nothing in each of " + last, x, 0, needs);
        }
    }

    private static LotRules needsApart(int setup, int hold, int shelf, int apart, int need) {
        LotRules x = withItems(12, 1);
        x.set(0, SETUP, setup);
        x.set(0, HOLD, hold);
        x.set(0, SHELF, shelf);
        x.need(0, 1, 1);
        x.need(0, 1 + apart, need);
        return x;
    }

    /** "(SHELF above 0: not more than SHELF periods before it)". */
    private static void shelfIsTheMostThatALotIsBefore() {
        for (int shelf = 1; shelf <= 12; shelf++) {
            for (int apart = 1; apart <= 11; apart++) {
                LotRules x = needsApart(10000, 0, shelf, apart, 5);
                boolean one = apart <= shelf;
                String when = "shelf " + shelf + ", " + apart + " apart";
                check.same(when + ": best", x.best(0), one ? 10000 : 20000);
                check.same(when + ": first lot", x.lot(0, 1), one ? 6 : 1);
                check.same(when + ": second lot", x.lot(0, 1 + apart), one ? 0 : 5);
            }
        }
    }

    /** "SHELF above 0": at 0 a lot may be for any later period. */
    private static void shelf0IsNoLimit() {
        for (int apart = 1; apart <= 11; apart++) {
            LotRules x = needsApart(10000, 0, 0, apart, 5);
            check.same("best, " + apart + " apart", x.best(0), 10000);
            check.same("first lot", x.lot(0, 1), 6);
            check.same("no second lot", x.lot(0, 1 + apart), 0);
        }
    }

    /** START is taken from the NEEDS before SHELF is spoken of, so it serves later ones, too. */
    private static void startDoesNotSpoil() {
        LotRules x = oneItem(10, 1, 1, 0, 0, 0, 3);
        x.set(0, START, 2);
        row("start behind the shelf", x, 10, 0, 0, 0, 1);
        x.set(0, START, 3);
        row("all from the start", x, 0, 0, 0, 0, 0);
        check.same("though it would be spoilt in a run", x.spoilt(0, 1), 3);
    }

    /** "and pays HOLD for each period for which a number is kept": at the price at which a second lot is as cheap. */
    private static void holdForEachPeriod() {
        for (int apart = 1; apart <= 11; apart++) {
            int kept = 7 * 3 * apart;
            LotRules x = needsApart(kept + 1, 7, 0, apart, 3);
            check.same("keeping is cheaper: best", x.best(0), 2 * kept + 1);
            check.same("keeping is cheaper: lot", x.lot(0, 1), 4);
            x.set(0, SETUP, kept);
            check.same("as cheap: best", x.best(0), 2 * kept);
            check.same("as cheap: lot", x.lot(0, 1), 4);
            x.set(0, SETUP, kept - 1);
            check.same("keeping is dearer: best", x.best(0), 2 * kept - 2);
            check.same("keeping is dearer: lot", x.lot(0, 1), 1);
            check.same("keeping is dearer: second lot", x.lot(0, 1 + apart), 3);
        }
    }

    /** "it makes nothing in p, if NET is 0 there and no more is paid by that". */
    private static void nothingIsMadeWhereNetIs0() {
        for (int shelf = 0; shelf <= 3; shelf++) {
            row("all free", oneItem(0, 0, shelf, 0, 0, 0, 5), 0, 0, 0, 0, 5);
            row("free to set up", oneItem(0, 9, shelf, 0, 0, 0, 5), 0, 0, 0, 0, 5);
            row("free to keep", oneItem(9, 0, shelf, 0, 0, 0, 5), 9, 0, 0, 0, 5);
            row("no needs, all free", oneItem(0, 0, shelf, 0, 0, 0, 0), 0, 0, 0, 0, 0);
            row("no needs", oneItem(9, 9, shelf, 0, 0, 0, 0), 0, 0, 0, 0, 0);
        }
        LotRules x = oneItem(0, 0, 0, 4, 5);
        x.set(0, START, 4);
        row("NET, not NEED, is 0", x, 0, 0, 5);
    }

    /** "else a LOT in p for the NETS of p .. q, q as great as may be". */
    private static void asGreatAsMayBe() {
        row("all free", oneItem(0, 0, 0, 1, 2, 3, 4), 0, 10, 0, 0, 0);
        row("all free, shelf 1", oneItem(0, 0, 1, 1, 2, 3, 4), 0, 3, 0, 7, 0);
        row("all free, shelf 2", oneItem(0, 0, 2, 1, 2, 3, 4), 0, 6, 0, 0, 4);
        row("all free, shelf 3", oneItem(0, 0, 3, 1, 2, 3, 4), 0, 10, 0, 0, 0);
        row("as cheap to keep as to set up", oneItem(6, 3, 0, 1, 2, 9), 18, 3, 0, 9);
        row("a period less is dearer", oneItem(5, 1, 0, 1, 3, 1, 5), 15, 5, 0, 0, 5);
        row("a greater q would be dearer", oneItem(2, 1, 0, 1, 2, 2), 6, 3, 0, 2);
    }

    /** "so on from p + 1, q + 1": the rule for equals holds again behind each lot. */
    private static void soOnBehindQ() {
        row("equals behind a lot", oneItem(2, 1, 0, 1, 2, 9, 2, 9, 2), 12, 3, 0, 11, 0, 11, 0);
        row("rests behind a lot", oneItem(2, 1, 1, 1, 0, 0, 1, 1, 0, 1), 7, 1, 0, 0, 2, 0, 0, 1);
        row("shelf 1, all free", oneItem(0, 0, 1, 1, 1, 1, 1, 1), 0, 2, 0, 2, 0, 1);
    }

    /** A NET of 0 is kept at no price, and ends no lot. */
    private static void netsOf0InsideALot() {
        row("one lot", oneItem(10, 1, 0, 1, 0, 0, 2, 0), 16, 3, 0, 0, 0, 0);
        row("at the shelf's end", oneItem(10, 1, 3, 1, 0, 0, 2, 0), 16, 3, 0, 0, 0, 0);
        row("behind the shelf's end", oneItem(10, 1, 2, 1, 0, 0, 2, 0), 20, 1, 0, 0, 2, 0);
        row("zeros behind the shelf's end", oneItem(10, 1, 1, 1, 0, 0, 0, 0), 10, 1, 0, 0, 0, 0);
    }

    /** "What THE BEST ROW of the NETS from a period on alone would cost (T + 1: 0)". */
    private static void costsFromAPeriodOn() {
        LotRules x = oneItem(10, 1, 0, 3, 4, 20, 2, 1);
        x.set(0, START, 5);
        // NETS 0 2 20 2 1.
        long[] due = {24, 24, 14, 11, 10, 0};
        for (int p = 1; p <= 6; p++) {
            check.same("from(0, " + p + ")", x.from(0, p), due[p - 1]);
        }
        check.same("from(0, 1) is the best", x.from(0, 1), x.best(0));
        check.same("from(0, 0)", x.from(0, 0), LotRules.NOTHING);
        check.same("from(0, 7)", x.from(0, 7), LotRules.NOTHING);
        x.set(0, START, 1000);
        for (int p = 1; p <= 6; p++) {
            check.same("from(0, " + p + ") of nothing", x.from(0, p), 0);
        }
        for (int last = 1; last <= 12; last++) {
            LotRules y = withItems(last, 1);
            y.set(0, SETUP, 9);
            y.need(0, last, 1);
            check.same("from T", y.from(0, last), 9);
            check.same("from T + 1", y.from(0, last + 1), 0);
            check.same("from T + 2", y.from(0, last + 2), LotRules.NOTHING);
        }
    }

    private static void aSinglePeriod() {
        LotRules x = oneItem(10000, 100, 12, 1000);
        row("at the most", x, 10000, 1000);
        check.same("from(0, 1)", x.from(0, 1), 10000);
        check.same("from(0, 2)", x.from(0, 2), 0);
        check.same("lot(0, 2)", x.lot(0, 2), -1);
        x.set(0, START, 999);
        row("one lacks", x, 10000, 1);
        x.set(0, START, 1000);
        row("nothing lacks", x, 0, 0);
    }

    /** A LOT of THE BEST ROW is as great as its NETS: the 5000 are a bound of make. */
    private static void twelvePeriodsAtTheMost() {
        int[] needs = new int[12];
        Arrays.fill(needs, 1000);
        LotRules x = oneItem(10000, 0, 0, needs);
        row("a lot for all", x, 10000, 12000, 0, 0, 0, 0, 0, 0, 0, 0, 0, 0, 0);
        x.set(0, SHELF, 5);
        row("two lots", x, 20000, 6000, 0, 0, 0, 0, 0, 6000, 0, 0, 0, 0, 0);
        x.set(0, HOLD, 1);
        // Lots for 3, 4, 6 periods each would cost 4 times 13000, 3 times 16000, 2 times 25000.
        row("three lots", x, 48000, 4000, 0, 0, 0, 4000, 0, 0, 0, 4000, 0, 0, 0);
    }

    /** All items of four periods with small numbers, each compared with the model, which tries every row. */
    private static void everySmallItem() {
        for (int code = 0; code < 81 * 4 * 2 * 4 * 3; code++) {
            int rest = code / 81;
            int[] numbers = {rest % 4, rest / 4 % 2, rest / 8 % 4, rest / 32 % 3};
            LotRules x = oneItem(numbers[0], numbers[1], numbers[2], needsOf(code % 81));
            x.set(0, START, numbers[3]);
            Model model = new Model(4);
            model.item();
            int[] whats = {SETUP, HOLD, SHELF, START};
            for (int i = 0; i < whats.length; i++) {
                model.set(0, whats[i], numbers[i]);
            }
            for (int p = 1; p <= 4; p++) {
                model.need(0, p, needsOf(code % 81)[p - 1]);
            }
            for (int p = 1; p <= 4; p++) {
                check.same("small item " + code + ": lot(0, " + p + ")", x.lot(0, p), model.lot(0, p));
                check.same("small item " + code + ": from(0, " + p + ")", x.from(0, p), model.from(0, p));
            }
        }
    }

    private static int[] needsOf(int code) {
        return new int[] {code % 3, code / 3 % 3, code / 9 % 3, code / 27};
    }
}
