/** Promises 9 to 17: what is told of stocks, set-ups, times, prices and faults. */
public final class ToldTest extends Given {
    private static final Check check = new Check();

    public static void main(String[] args) {
        promise9Gross();
        promise9GrossAtItsGreatest();
        promise10StockKeptAndOwed();
        promise10StockBehindItsLead();
        promise10StockAtItsGreatest();
        promise11SpoiltOldestFirst();
        promise11SpoiltStart();
        promise11SpoiltBehindItsLead();
        promise12And13SetUpsCarriedOver();
        promise12And13Refusals();
        promise14Time();
        promise15Prices();
        promise16And17FaultsInOrder();
        promise16And17EdgesOfEachKind();
        promise17Refusals();
        promise16And17AsManyAsMayBe();
        check.end("ToldTest");
    }

    private static void stocks(String what, LotRules x, int item, long... due) {
        long[] got = new long[due.length];
        for (int p = 0; p < due.length; p++) {
            got[p] = x.stock(item, p);
        }
        check.row(what, got, due);
    }

    private static void losses(String what, LotRules x, int item, long... due) {
        long[] got = new long[due.length];
        for (int p = 1; p <= due.length; p++) {
            got[p - 1] = x.spoilt(item, p);
        }
        check.row(what, got, due);
    }

    private static void faultIs(LotRules x, int k, int kind, int period, int item, int amount) {
        check.same("fault(" + k + ", 0)", x.fault(k, 0), kind);
        check.same("fault(" + k + ", 1)", x.fault(k, 1), period);
        check.same("fault(" + k + ", 2)", x.fault(k, 2), item);
        check.same("fault(" + k + ", 3)", x.fault(k, 3), amount);
    }

    private static void promise9Gross() {
        LotRules x = withItems(3, 4);
        needs(x, 0, 5, 6, 7);
        x.part(0, 1, 2);
        x.part(0, 2, 3);
        x.part(1, 3, 4);
        lots(x, 1, 10, 0, 1);
        lots(x, 2, 0, 0, 100);
        lots(x, 3, 0, 7, 0);
        lots(x, 0, 9, 9, 9);
        x.set(1, LEAD, 2);
        check.same("gross(0, 1)", x.gross(0, 1), 25);
        check.same("gross(0, 2): parts of parts do not count", x.gross(0, 2), 6);
        check.same("gross(0, 3)", x.gross(0, 3), 309);
        check.same("gross(1, 2)", x.gross(1, 2), 28);
        check.same("gross(3, 2): it is no part", x.gross(3, 2), 0);
        x.part(0, 2, 0);
        check.same("gross(0, 3), a part no more", x.gross(0, 3), 9);
        check.same("gross(4, 1)", x.gross(4, 1), -1);
        check.same("gross(0, 0)", x.gross(0, 0), -1);
        check.same("gross(0, 4)", x.gross(0, 4), -1);
        for (int wild : WILD) {
            check.same("gross of no item", x.gross(wild, 1), -1);
            check.same("gross in no period", x.gross(0, wild), -1);
        }
    }

    private static void promise9GrossAtItsGreatest() {
        LotRules x = withItems(12, 6);
        x.need(0, 12, 1000);
        for (int i = 1; i < 6; i++) {
            x.part(0, i, 9);
            x.make(i, 12, 5000);
        }
        check.same("gross(0, 12)", x.gross(0, 12), 226000);
        check.same("stock(0, 12)", x.stock(0, 12), -226000);
    }

    private static void promise10StockKeptAndOwed() {
        LotRules x = withItems(5, 2);
        x.set(1, START, 10);
        needs(x, 1, 4, 9, 5, 0, 1);
        lots(x, 1, 0, 0, 6, 5, 0);
        stocks("kept, owed, paid back", x, 1, 10, 6, -3, -2, 3, 2);
        stocks("the other item", x, 0, 0, 0, 0, 0, 0, 0);
        check.same("stock(1, 6)", x.stock(1, 6), LotRules.NOTHING);
        check.same("stock(1, -1)", x.stock(1, -1), LotRules.NOTHING);
        check.same("stock(2, 1)", x.stock(2, 1), LotRules.NOTHING);
        check.same("stock(2, 0)", x.stock(2, 0), LotRules.NOTHING);
        for (int wild : WILD) {
            check.same("stock of no item", x.stock(wild, 0), LotRules.NOTHING);
            check.same("stock in no period", x.stock(0, wild), LotRules.NOTHING);
        }
        x.part(1, 0, 2);
        x.make(0, 4, 1);
        stocks("a part of the other one", x, 1, 10, 6, -3, -2, 1, 0);
        x.set(1, START, 0);
        stocks("another start", x, 1, 0, -4, -13, -12, -9, -10);
    }

    private static void promise10StockBehindItsLead() {
        LotRules x = withItems(4, 1);
        lots(x, 0, 1, 20, 300, 4000);
        stocks("no lead", x, 0, 0, 1, 21, 321, 4321);
        x.set(0, LEAD, 1);
        stocks("lead 1", x, 0, 0, 0, 1, 21, 321);
        x.set(0, LEAD, 3);
        stocks("lead 3", x, 0, 0, 0, 0, 0, 1);
        LotRules y = withItems(2, 1);
        lots(y, 0, 1, 20);
        y.set(0, LEAD, 3);
        stocks("lead behind the last period", y, 0, 0, 0, 0);
        y.set(0, LEAD, 2);
        stocks("lead just behind it", y, 0, 0, 0, 0);
    }

    private static void promise10StockAtItsGreatest() {
        LotRules x = withItems(12, 6);
        for (int p = 1; p <= 12; p++) {
            x.need(0, p, 1000);
            for (int i = 1; i < 6; i++) {
                x.part(0, i, 9);
                x.make(i, p, 5000);
            }
        }
        x.set(5, START, 1000);
        x.set(5, HOLD, 100);
        check.same("the most that is owed", x.stock(0, 12), -2712000);
        check.same("the most that is there", x.stock(5, 12), 61000);
        check.same("fault by the most that is owed", x.fault(x.faults() - 1, 3), 2712000);
        check.same("its HOLD price", x.price(1), 100L * (12 * 1000 + 5000 * 78));
    }

    private static void promise11SpoiltOldestFirst() {
        LotRules x = withItems(6, 1);
        x.set(0, START, 4);
        x.set(0, SHELF, 2);
        lots(x, 0, 10, 3, 5, 0, 0, 0);
        needs(x, 0, 1, 1, 2, 0, 1, 0);
        // Period 2 loses 2 of the start, period 3 loses 8 of lot 1, period 4 lot 2, period 5 what is left of lot 3.
        losses("shelf 2", x, 0, 0, 2, 8, 3, 4, 0);
        stocks("shelf 2", x, 0, 4, 13, 13, 8, 5, 0, 0);
        x.set(0, SHELF, 0);
        losses("no shelf", x, 0, 0, 0, 0, 0, 0, 0);
        stocks("no shelf", x, 0, 4, 13, 15, 18, 18, 17, 17);
        x.set(0, SHELF, 12);
        losses("a shelf behind the last period", x, 0, 0, 0, 0, 0, 0, 0);
        x.set(0, SHELF, 6);
        losses("shelf 6", x, 0, 0, 0, 0, 0, 0, 0);
        x.set(0, START, 8);
        losses("shelf 6, some of the start left", x, 0, 0, 0, 0, 0, 0, 3);
    }

    private static void promise11SpoiltStart() {
        LotRules x = withItems(12, 1);
        x.set(0, START, 1000);
        for (int shelf = 1; shelf <= 12; shelf++) {
            x.set(0, SHELF, shelf);
            for (int p = 1; p <= 12; p++) {
                check.same("start spoilt in " + p + " of shelf " + shelf, x.spoilt(0, p), p == shelf ? 1000 : 0);
                check.same("stock in " + p + " of shelf " + shelf, x.stock(0, p), p >= shelf ? 0 : 1000);
            }
            check.same("stock(0, 0)", x.stock(0, 0), 1000);
        }
        check.same("spoilt(0, 0)", x.spoilt(0, 0), -1);
        check.same("spoilt(0, 13)", x.spoilt(0, 13), -1);
        check.same("spoilt(1, 1)", x.spoilt(1, 1), -1);
        for (int wild : WILD) {
            check.same("spoilt of no item", x.spoilt(wild, 1), -1);
            check.same("spoilt in no period", x.spoilt(0, wild), -1);
        }
    }

    private static void promise11SpoiltBehindItsLead() {
        LotRules x = withItems(5, 1);
        x.set(0, LEAD, 2);
        x.set(0, SHELF, 1);
        lots(x, 0, 7, 5, 3, 2, 1);
        needs(x, 0, 2, 0, 1, 0, 0);
        // Lot 1 comes in period 3 and pays the 2 that are owed first; its last 4 can still be taken in period 4.
        losses("lead 2, shelf 1", x, 0, 0, 0, 0, 4, 5);
        stocks("lead 2, shelf 1", x, 0, 0, -2, -2, 4, 5, 3);
        x.need(0, 4, 6);
        losses("taken in its last period", x, 0, 0, 0, 0, 0, 3);
        stocks("taken in its last period", x, 0, 0, -2, -2, 4, 3, 3);
    }

    private static void promise12And13SetUpsCarriedOver() {
        LotRules x = withItems(7, 3);
        lots(x, 0, 0, 1, 1, 1, 0, 1, 0);
        lots(x, 1, 0, 1, 0, 1, 0, 0, 0);
        lots(x, 2, 0, 0, 1, 1, 0, 1, 0);
        // Orders: none; 0 1; 0 2; (2) 0 1; none; 0 2; none.
        int[][] setUp = {{0, 0, 0}, {1, 1, 0}, {1, 0, 1}, {1, 1, 0}, {0, 0, 0}, {1, 0, 1}, {0, 0, 0}};
        int[] stands = {-3, -3, 1, 2, 1, 1, 2, 2};
        for (int p = 0; p <= 7; p++) {
            check.same("stands(" + p + ")", x.stands(p), stands[p]);
        }
        for (int p = 1; p <= 7; p++) {
            for (int i = 0; i < 3; i++) {
                check.same("isSetUp(" + i + ", " + p + ")", x.isSetUp(i, p), setUp[p - 1][i]);
            }
        }
        x.make(1, 5, 1);
        check.same("carried over alone", x.isSetUp(1, 5), 0);
        check.same("still stands", x.stands(5), 1);
        x.make(1, 6, 1);
        check.same("carried over twice", x.isSetUp(1, 6), 0);
        check.same("others follow", x.stands(6), 2);
        x.make(2, 7, 1);
        check.same("carried over in the last period", x.isSetUp(2, 7), 0);
        x.make(0, 7, 1);
        check.same("a lower number follows the one that stands", x.stands(7), 0);
        check.same("and is set up", x.isSetUp(0, 7), 1);
        x.make(0, 7, 0);
        check.same("a lot of 0 is none", x.isSetUp(0, 7), 0);
        check.same("it stands as before", x.stands(7), 2);
    }

    private static void promise12And13Refusals() {
        LotRules x = withItems(4, 2);
        check.same("isSetUp(2, 1)", x.isSetUp(2, 1), -1);
        check.same("isSetUp(0, 0)", x.isSetUp(0, 0), -1);
        check.same("isSetUp(0, 5)", x.isSetUp(0, 5), -1);
        check.same("stands(5)", x.stands(5), -1);
        check.same("stands(4)", x.stands(4), -3);
        for (int wild : WILD) {
            check.same("isSetUp of no item", x.isSetUp(wild, 1), -1);
            check.same("isSetUp in no period", x.isSetUp(0, wild), -1);
            check.same("stands in no period", x.stands(wild), -1);
        }
        x.make(0, 1, 1);
        check.same("stands(0) with a lot in period 1", x.stands(0), -3);
        check.same("item 0 stands", x.stands(4), 0);
    }

    private static void promise14Time() {
        LotRules x = withItems(3, 2);
        x.set(0, TIME, 3);
        x.set(0, SETUP_TIME, 50);
        x.set(1, TIME, 20);
        x.set(1, SETUP_TIME, 200);
        lots(x, 0, 7, 2, 0);
        lots(x, 1, 0, 5000, 1);
        check.same("time(1)", x.time(1), 71);
        check.same("time(2): item 0 is carried over", x.time(2), 100206);
        check.same("time(3): item 1 is carried over", x.time(3), 20);
        x.capacity(1, 0);
        x.set(0, LEAD, 3);
        check.same("time(1), whatever the capacity and the lead", x.time(1), 71);
        x.make(0, 1, 0);
        check.same("time(1) without lots", x.time(1), 0);
        check.same("time(2): item 0 is set up now", x.time(2), 100256);
        check.same("time(0)", x.time(0), LotRules.NOTHING);
        check.same("time(4)", x.time(4), LotRules.NOTHING);
        for (int wild : WILD) {
            check.same("time of no period", x.time(wild), LotRules.NOTHING);
        }
    }

    private static void promise15Prices() {
        LotRules x = withItems(3, 2);
        x.set(0, SETUP, 100);
        x.set(1, SETUP, 1000);
        x.set(0, HOLD, 3);
        x.set(1, HOLD, 100);
        x.set(1, START, 9);
        x.set(0, TIME, 2);
        x.set(1, SETUP_TIME, 30);
        lots(x, 0, 5, 5, 0);
        lots(x, 1, 0, 1, 4);
        needs(x, 0, 2, 2, 11);
        needs(x, 1, 10, 0, 1);
        x.capacity(1, 4);
        x.capacity(2, 40);
        x.capacity(3, 0);
        x.over(0, 7);
        // Stocks of item 0: 3, 6, -5; of item 1: -1, 0, 3. Times: 10, 40, 0. Set up: 0, 1, none.
        check.same("price(0)", x.price(0), 1100);
        check.same("price(1)", x.price(1), 327);
        check.same("price(2)", x.price(2), 42);
        check.same("price(3)", x.price(3), 1469);
        x.capacity(2, 39);
        check.same("price(2) of two periods", x.price(2), 49);
        x.over(0, 0);
        check.same("price(2) at no over price", x.price(2), 0);
        check.same("price(3) at no over price", x.price(3), 1427);
        x.over(1, 1000);
        x.over(0, 100);
        check.same("price(2), whatever is the most over", x.price(2), 700);
        x.make(0, 3, 1);
        check.same("price(0) with a set-up in the last period", x.price(0), 1200);
        check.same("price(2) with time in the last period", x.price(2), 900);
        check.same("price(4)", x.price(4), LotRules.NOTHING);
        for (int wild : WILD) {
            check.same("no such price", x.price(wild), LotRules.NOTHING);
        }
    }

    private static void promise16And17FaultsInOrder() {
        LotRules x = withItems(2, 3);
        for (int i = 0; i < 3; i++) {
            x.set(i, LEAST, 10 * (i + 1));
            x.set(i, TIME, 1);
        }
        x.capacity(1, 5);
        x.capacity(2, 5);
        x.over(1, 2);
        needs(x, 0, 8, 0);
        needs(x, 2, 0, 40);
        lots(x, 0, 4, 3);
        lots(x, 1, 0, 19);
        lots(x, 2, 29, 0);
        check.same("faults()", x.faults(), 9);
        faultIs(x, 0, 1, 1, 0, 4);
        faultIs(x, 1, 2, 1, 0, 6);
        faultIs(x, 2, 2, 1, 2, 1);
        faultIs(x, 3, 3, 1, -3, 26);
        faultIs(x, 4, 1, 2, 0, 1);
        faultIs(x, 5, 1, 2, 2, 11);
        faultIs(x, 6, 2, 2, 0, 7);
        faultIs(x, 7, 2, 2, 1, 1);
        faultIs(x, 8, 3, 2, -3, 15);
        check.same("fault(9, 0)", x.fault(9, 0), -1);
        x.capacity(2, 20);
        check.same("faults() with one less", x.faults(), 8);
        check.same("fault(8, 0)", x.fault(8, 0), -1);
    }

    private static void promise16And17EdgesOfEachKind() {
        LotRules x = withItems(1, 1);
        check.same("no faults at first", x.faults(), 0);
        x.need(0, 1, 5);
        x.make(0, 1, 5);
        check.same("nothing is owed", x.faults(), 0);
        x.set(0, LEAST, 5);
        check.same("just LEAST", x.faults(), 0);
        x.set(0, LEAST, 6);
        check.same("below LEAST", x.faults(), 1);
        faultIs(x, 0, 2, 1, 0, 1);
        x.make(0, 1, 0);
        check.same("no lot is not below LEAST", x.faults(), 1);
        faultIs(x, 0, 1, 1, 0, 5);
        x.need(0, 1, 0);
        x.set(0, LEAST, 0);
        x.set(0, TIME, 20);
        x.make(0, 1, 600);
        x.over(1, 2000);
        check.same("just MOST OVER", x.faults(), 0);
        x.over(1, 1999);
        check.same("above MOST OVER", x.faults(), 1);
        faultIs(x, 0, 3, 1, -3, 1);
        x.over(1, 0);
        x.capacity(1, 9999);
        faultIs(x, 0, 3, 1, -3, 2001);
    }

    private static void promise17Refusals() {
        LotRules x = withItems(1, 1);
        check.same("fault(0, 0) without faults", x.fault(0, 0), -1);
        check.same("fault(0, 4) without faults", x.fault(0, 4), -1);
        x.need(0, 1, 1);
        check.same("fault(0, 4)", x.fault(0, 4), -2);
        check.same("fault(1, 0)", x.fault(1, 0), -1);
        check.same("fault(1, 4)", x.fault(1, 4), -1);
        for (int wild : WILD) {
            check.same("no such fault", x.fault(wild, 0), -1);
            check.same("no such fault, before another what", x.fault(wild, wild), -1);
            check.same("another what", x.fault(0, wild), -2);
        }
    }

    private static void promise16And17AsManyAsMayBe() {
        LotRules x = withItems(12, 6);
        for (int i = 0; i < 6; i++) {
            x.set(i, LEAST, 1000);
            x.set(i, TIME, 1);
            for (int p = 1; p <= 12; p++) {
                x.need(i, p, 1000);
                x.make(i, p, 1);
            }
        }
        for (int p = 1; p <= 12; p++) {
            x.capacity(p, 0);
        }
        check.same("faults()", x.faults(), 156);
        for (int p = 1; p <= 12; p++) {
            int k = 13 * (p - 1);
            faultIs(x, k + 5, 1, p, 5, 999 * p);
            faultIs(x, k + 6, 2, p, 0, 999);
            faultIs(x, k + 12, 3, p, -3, 6);
        }
        check.same("fault(156, 0)", x.fault(156, 0), -1);
    }
}
