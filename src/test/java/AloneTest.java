/** Promises 18 to 21: the best row of an item alone, and shares of prices. */
public final class AloneTest extends Given {
    private static final Check check = new Check();

    public static void main(String[] args) {
        promise18To20BestRow();
        promise18To20OfSeveral();
        promise18To20Shelf();
        promise18To20Start();
        promise18To20NothingButNeedsCounts();
        promise18To20AtTheGreatest();
        promise18To20Refusals();
        promise21Share();
        promise21ShareRefusesAndThrows();
        check.end("AloneTest");
    }

    private static void bestLots(String what, LotRules x, long cost, long... due) {
        check.same(what + ": best(0)", x.best(0), cost);
        long[] got = new long[due.length];
        for (int p = 1; p <= due.length; p++) {
            got[p - 1] = x.lot(0, p);
        }
        check.row(what + ": lots", got, due);
    }

    private static void costsFrom(String what, LotRules x, long... due) {
        long[] got = new long[due.length];
        for (int p = 1; p <= due.length; p++) {
            got[p - 1] = x.from(0, p);
        }
        check.row(what + ": from", got, due);
    }

    private static void promise18To20BestRow() {
        LotRules x = oneItem(10, 1, 0, 3, 4, 20, 2, 1);
        bestLots("two lots", x, 28, 7, 0, 23, 0, 0);
        costsFrom("two lots", x, 28, 24, 14, 11, 10, 0);
        LotRules y = oneItem(10, 1, 0, 0, 0, 6, 0, 0, 3, 0);
        bestLots("rests", y, 19, 0, 0, 9, 0, 0, 0, 0);
        costsFrom("rests", y, 19, 19, 19, 10, 10, 10, 0, 0);
        bestLots("no needs", oneItem(10, 1, 0, 0, 0, 0), 0, 0, 0, 0);
        bestLots("too dear to keep", oneItem(10, 11, 0, 1, 1, 1), 30, 1, 1, 1);
        bestLots("a single period", oneItem(7, 1, 0, 3), 7, 3);
    }

    private static void promise18To20OfSeveral() {
        bestLots("the longest is not the cheapest", oneItem(4, 1, 0, 1, 4, 1), 9, 1, 5, 0);
        bestLots("equal, so the longest", oneItem(2, 1, 0, 1, 2, 9), 6, 3, 0, 9);
        bestLots("all for nothing", oneItem(0, 0, 0, 0, 5, 0, 6, 7), 0, 0, 18, 0, 0, 0);
        bestLots("all for nothing but the shelf", oneItem(0, 0, 1, 0, 5, 0, 6, 7), 0, 0, 5, 0, 13, 0);
        bestLots("no set-up price", oneItem(0, 1, 0, 4, 0, 5), 0, 4, 0, 5);
        bestLots("no hold price", oneItem(9, 0, 0, 0, 4, 0, 5), 9, 0, 9, 0, 0);
        // 1 1 | 1 1 and 1 | 1 1 1 would cost 3 + 1 + 3 + 1 and 3 + 3 + 1 + 2; 1 1 1 | 1 is 3 + 1 + 2 + 3.
        bestLots("an even cut is cheapest", oneItem(3, 1, 0, 1, 1, 1, 1), 8, 2, 0, 2, 0);
        // 1 1 1 | 1 1 and 1 1 | 1 1 1 cost 10 both.
        bestLots("the first lot is the longer one", oneItem(3, 1, 0, 1, 1, 1, 1, 1), 10, 3, 0, 0, 2, 0);
    }

    private static void promise18To20Shelf() {
        LotRules x = oneItem(100, 1, 1, 1, 1, 1, 1, 1);
        bestLots("shelf 1", x, 302, 2, 0, 2, 0, 1);
        costsFrom("shelf 1", x, 302, 202, 201, 101, 100, 0);
        x.set(0, SHELF, 2);
        bestLots("shelf 2", x, 204, 3, 0, 0, 2, 0);
        x.set(0, SHELF, 4);
        bestLots("shelf 4", x, 110, 5, 0, 0, 0, 0);
        x.set(0, SHELF, 3);
        bestLots("shelf 3", x, 204, 3, 0, 0, 2, 0);
        x.set(0, SHELF, 12);
        bestLots("shelf 12", x, 110, 5, 0, 0, 0, 0);
        bestLots("nothing is needed behind the shelf", oneItem(9, 0, 1, 2, 3, 0, 0, 4, 0), 18, 5, 0, 0, 0, 4, 0);
        bestLots("just at the shelf's end", oneItem(9, 1, 3, 2, 0, 0, 4), 18, 2, 0, 0, 4);
        bestLots("kept till the shelf's end", oneItem(13, 1, 3, 2, 0, 0, 4), 25, 6, 0, 0, 0);
    }

    private static void promise18To20Start() {
        LotRules x = oneItem(10, 1, 0, 3, 4, 5);
        x.set(0, START, 3);
        bestLots("start of the first need", x, 15, 0, 9, 0);
        costsFrom("start of the first need", x, 15, 15, 10, 0);
        x.set(0, START, 5);
        bestLots("start of some of the second", x, 15, 0, 7, 0);
        x.set(0, START, 1);
        // 2 4 5 and 2 4 | 5 cost 24 both.
        bestLots("start of some of the first", x, 24, 11, 0, 0);
        costsFrom("the nets from a period on", x, 24, 15, 10, 0);
        x.set(0, START, 11);
        bestLots("all but one", x, 10, 0, 0, 1);
        x.set(0, START, 12);
        bestLots("all", x, 0, 0, 0, 0);
        x.set(0, START, 1000);
        bestLots("more than all", x, 0, 0, 0, 0);
        x.set(0, START, 7);
        x.set(0, SHELF, 1);
        bestLots("start is taken from the needs, whatever the shelf", x, 10, 0, 0, 5);
        costsFrom("start is not taken again", x, 10, 10, 10, 0);
    }

    private static void promise18To20NothingButNeedsCounts() {
        LotRules x = withItems(3, 2);
        x.set(0, SETUP, 10);
        x.set(0, HOLD, 1);
        x.need(0, 2, 4);
        x.set(0, LEAST, 500);
        x.set(0, LEAD, 3);
        x.set(0, TIME, 20);
        x.set(0, SETUP_TIME, 200);
        x.part(0, 1, 9);
        x.make(1, 1, 5000);
        x.make(0, 1, 77);
        x.capacity(2, 0);
        x.over(0, 100);
        bestLots("needs alone", x, 10, 0, 4, 0);
        check.same("the lots made stand", x.make(0, 1, 77), 77);
        check.same("best(1)", x.best(1), 0);
    }

    private static void promise18To20AtTheGreatest() {
        LotRules x = withItems(12, 6);
        x.set(5, SETUP, 10000);
        for (int p = 1; p <= 12; p++) {
            x.need(5, p, 1000);
        }
        check.same("lot(5, 1)", x.lot(5, 1), 12000);
        check.same("best(5)", x.best(5), 10000);
        x.set(5, HOLD, 100);
        check.same("best(5), too dear to keep", x.best(5), 120000);
        check.same("from(5, 12)", x.from(5, 12), 10000);
        check.same("from(5, 13)", x.from(5, 13), 0);
        check.same("from(5, 14)", x.from(5, 14), LotRules.NOTHING);
    }

    private static void promise18To20Refusals() {
        LotRules x = withItems(2, 2);
        check.same("best(2)", x.best(2), LotRules.NOTHING);
        check.same("lot(2, 1)", x.lot(2, 1), -1);
        check.same("lot(0, 0)", x.lot(0, 0), -1);
        check.same("lot(0, 3)", x.lot(0, 3), -1);
        check.same("from(2, 1)", x.from(2, 1), LotRules.NOTHING);
        check.same("from(0, 0)", x.from(0, 0), LotRules.NOTHING);
        check.same("from(0, 3)", x.from(0, 3), 0);
        check.same("from(0, 4)", x.from(0, 4), LotRules.NOTHING);
        for (int wild : WILD) {
            check.same("best of no item", x.best(wild), LotRules.NOTHING);
            check.same("lot of no item", x.lot(wild, 1), -1);
            check.same("lot in no period", x.lot(0, wild), -1);
            check.same("from of no item", x.from(wild, 1), LotRules.NOTHING);
            check.same("from no period", x.from(0, wild), LotRules.NOTHING);
        }
    }

    private static LotRules withPrices() {
        LotRules x = withItems(2, 1);
        x.set(0, SETUP, 20);
        x.set(0, HOLD, 3);
        x.set(0, TIME, 1);
        x.make(0, 1, 1);
        x.capacity(1, 0);
        x.over(0, 7);
        return x;
    }

    private static void promise21Share() {
        LotRules x = withPrices();
        long[] prices = {20, 6, 7, 33};
        for (int what = 0; what <= 3; what++) {
            check.same("price(" + what + ")", x.price(what), prices[what]);
            for (int by = 0; by <= 3; by++) {
                long due = 1000 * prices[what] / prices[by];
                check.same("share(" + what + ", " + by + ")", x.share(what, by), due);
            }
        }
        check.same("share(0, 3) is cut", x.share(0, 3), 606);
        check.same("share(0, 2) is cut", x.share(0, 2), 2857);
        x.over(0, 0);
        check.same("a share of 0", x.share(2, 3), 0);
        x.over(0, 1);
        check.same("a share by a price of 1", x.share(0, 2), 20000);
    }

    private static void promise21ShareRefusesAndThrows() {
        LotRules x = withPrices();
        x.over(0, 0);
        for (int what = 0; what <= 3; what++) {
            check.shareThrows(x, what, 2);
        }
        check.same("share(4, 2): no such price goes first", x.share(4, 2), LotRules.NOTHING);
        check.same("share(-1, 2): no such price goes first", x.share(-1, 2), LotRules.NOTHING);
        check.same("share(2, 4)", x.share(2, 4), LotRules.NOTHING);
        for (int wild : WILD) {
            check.same("share of no price", x.share(wild, 0), LotRules.NOTHING);
            check.same("share by no price", x.share(0, wild), LotRules.NOTHING);
            check.same("share of none by 0", x.share(wild, 2), LotRules.NOTHING);
        }
        check.same("prices are as before", x.share(0, 0), 1000);
        LotRules y = new LotRules(1);
        check.shareThrows(y, 0, 0);
        check.shareThrows(y, 3, 3);
    }
}
