/**
 * The promises, one after another, at the edges that their own sentences name: too small, too large, empty, full, and
 * numbers that would wrap around. Edges of the terms are in TermsTest, of an item alone in RowsTest.
 */
public final class EdgesTest extends Given {
    private static final Check check = new Check();

    public static void main(String[] args) {
        promise1TheNearestThatMayBe();
        promise1NoItems();
        promise2AnItemMore();
        promise3NumbersAreEachTheirOwn();
        promise4And6PlacesAreEachTheirOwn();
        promise5AlsoOfItselfNotForNothing();
        promise5ByOthersToo();
        promise7And8WhatItWas();
        promise9Gross();
        promise10PeriodZeroIsStart();
        promise11SpoiltAtAPeriodsEnd();
        promise12OneOrZero();
        promise13NoneIsNotNoPeriod();
        promise14TimeOfNoPeriod();
        promise15PricesAtTheMost();
        promise16NoFaultsAndAll();
        promise17ByHowMuch();
        promise17AnotherWhat();
        promise18To20OfNoItem();
        promise21Cut();
        promise21AnotherOneIs0();
        promise21NoSuchPriceFirst();
        promise21AtTheMost();
        wildArgumentsOfEveryCall();
        fiveHundredAndTwelveCalls();
        check.end("EdgesTest");
    }

    /** "So many PERIODS, the nearest that may be". */
    private static void promise1TheNearestThatMayBe() {
        for (int asked = -20; asked <= 40; asked++) {
            int due = asked < 1 ? 1 : asked > 12 ? 12 : asked;
            LotRules x = new LotRules(asked);
            check.same("the last of LotRules(" + asked + ")", x.time(due), 0);
            check.same("behind the last of LotRules(" + asked + ")", x.time(due + 1), LotRules.NOTHING);
        }
        for (int wild : WILD) {
            int due = wild < 1 ? 1 : 12;
            LotRules x = new LotRules(wild);
            check.same("the last of LotRules(" + wild + ")", x.time(due), 0);
            check.same("behind the last of LotRules(" + wild + ")", x.time(due + 1), LotRules.NOTHING);
        }
    }

    /** "no items". */
    private static void promise1NoItems() {
        for (int last : new int[] {1, 12}) {
            LotRules x = new LotRules(last);
            for (String name : new String[] {"set", "need", "part", "make", "gross", "spoilt", "isSetUp", "lot"}) {
                check.same(name + " of item 0", Calls.ask(x, name, 0, 1, 0), -1);
            }
            for (String name : new String[] {"stock", "best", "from"}) {
                check.same(name + " of item 0", Calls.ask(x, name, 0, 1, 0), LotRules.NOTHING);
            }
            check.same("part(0, 0, 0)", x.part(0, 0, 0), -1);
            check.same("stands(1)", x.stands(1), -3);
            check.same("time(1)", x.time(1), 0);
            check.same("price(3)", x.price(3), 0);
            check.same("faults()", x.faults(), 0);
            check.same("fault(0, 0)", x.fault(0, 0), -1);
            check.shareThrows(x, 0, 3);
            check.same("capacity(1, 5)", x.capacity(1, 5), 10000);
            check.same("over(1, 5)", x.over(1, 5), 0);
            check.same("item()", x.item(), 0);
        }
    }

    /** "An item more: its number. -4": it has nothing of the others, also when it comes late. */
    private static void promise2AnItemMore() {
        LotRules x = new LotRules(2);
        for (int i = 0; i < 6; i++) {
            check.same("item()", x.item(), i);
            check.same("need of the new item", x.need(i, 1, 5), 0);
            check.same("number of the new item", x.set(i, START, 1), 0);
            check.same("lot of the new item", x.make(i, 2, 1), 0);
            check.same("faults with " + (i + 1) + " items", x.faults(), 2 * (i + 1));
        }
        check.same("item() without room", x.item(), -4);
        check.same("item() without room, again", x.item(), -4);
        check.same("faults as before", x.faults(), 12);
    }

    /** "One of its numbers becomes v: what it was". */
    private static void promise3NumbersAreEachTheirOwn() {
        LotRules x = withItems(1, 6);
        for (int round = 0; round < 3; round++) {
            for (int i = 0; i < 6; i++) {
                for (int what = 0; what < 8; what++) {
                    int was = round == 0 ? 0 : valueOf(i, what, round - 1);
                    check.same("set(" + i + ", " + what + ")", x.set(i, what, valueOf(i, what, round)), was);
                }
            }
        }
    }

    private static int valueOf(int item, int what, int round) {
        return (7 * item + 3 * what + 5 * round) % (MOST[what] + 1);
    }

    /** "Its NEED in a period becomes v: what it was", "Its LOT in a period becomes v: what it was". */
    private static void promise4And6PlacesAreEachTheirOwn() {
        LotRules x = withItems(12, 6);
        for (int round = 0; round < 3; round++) {
            for (int i = 0; i < 6; i++) {
                for (int p = 1; p <= 12; p++) {
                    int was = round == 0 ? 0 : 100 * i + p + round - 1;
                    check.same("need(" + i + ", " + p + ")", x.need(i, p, 100 * i + p + round), was);
                    check.same("make(" + i + ", " + p + ")", x.make(i, p, 100 * i + p + round), was);
                }
            }
        }
    }

    /** "-3 (also of itself; not for n = 0)". */
    private static void promise5AlsoOfItselfNotForNothing() {
        LotRules x = withItems(1, 6);
        for (int i = 0; i < 6; i++) {
            check.same("part of itself once", x.part(i, i, 1), -3);
            check.same("part of itself nine times", x.part(i, i, 9), -3);
            check.same("part of itself 0 times", x.part(i, i, 0), 0);
            check.same("part of itself ten times is outside first", x.part(i, i, 10), -2);
            check.same("part of itself -1 times is outside first", x.part(i, i, -1), -2);
        }
        check.same("gross(0, 1)", x.gross(0, 1), 0);
    }

    /** "an item would be a PART of itself, by others, too": every pair in a web of all items. */
    private static void promise5ByOthersToo() {
        LotRules x = withItems(1, 6);
        for (int i = 0; i < 6; i++) {
            for (int of = i + 1; of < 6; of++) {
                check.same("up the web", x.part(i, of, i + 1), 0);
            }
        }
        for (int i = 0; i < 6; i++) {
            for (int of = 0; of < 6; of++) {
                boolean up = of > i;
                check.same("part(" + i + ", " + of + ", 9)", x.part(i, of, 9), up ? i + 1 : -3);
                check.same("part(" + i + ", " + of + ", 0)", x.part(i, of, 0), up ? 9 : 0);
                if (up) {
                    check.same("0 times before", x.part(i, of, i + 1), 0);
                }
            }
        }
        LotRules open = withItems(1, 3);
        open.part(0, 1, 1);
        check.same("a ring of two", open.part(1, 0, 1), -3);
        open.part(0, 1, 0);
        check.same("a part 0 times is none", open.part(1, 0, 1), 0);
        check.same("now the other way is a ring", open.part(0, 1, 1), -3);
    }

    /** "CAPACITY of a period becomes v: what it was", "OVER PRICE (what = 0), MOST OVER (1) becomes v: what it was". */
    private static void promise7And8WhatItWas() {
        LotRules x = new LotRules(12);
        for (int round = 0; round < 3; round++) {
            for (int p = 1; p <= 12; p++) {
                int was = round == 0 ? 10000 : 800 * p + round - 1;
                check.same("capacity(" + p + ")", x.capacity(p, 800 * p + round), was);
            }
            check.same("over(0)", x.over(0, 98 + round), round == 0 ? 0 : 97 + round);
            check.same("over(1)", x.over(1, 9998 + round), round == 0 ? 0 : 9997 + round);
        }
        check.same("over(2, 0)", x.over(2, 0), -2);
        check.same("over(-1, 0)", x.over(-1, 0), -2);
    }

    private static void promise9Gross() {
        for (int last : new int[] {1, 12}) {
            LotRules x = withItems(last, 6);
            check.same("at the least", x.gross(5, last), 0);
            x.need(5, last, 1000);
            check.same("a need alone", x.gross(5, last), 1000);
            for (int i = 0; i < 5; i++) {
                x.part(5, i, 9);
                x.make(i, last, 5000);
                check.same("a part of " + (i + 1), x.gross(5, last), 1000 + 45000 * (i + 1));
            }
            check.same("gross(6, 1)", x.gross(6, 1), -1);
            check.same("gross behind the last period", x.gross(5, last + 1), -1);
            check.same("gross(5, 0)", x.gross(5, 0), -1);
        }
    }

    /** "STOCK at a period's end (0: START)". */
    private static void promise10PeriodZeroIsStart() {
        LotRules x = withItems(1, 1);
        x.set(0, SHELF, 1);
        x.need(0, 1, 1000);
        for (int start : new int[] {0, 1, 999, 1000}) {
            x.set(0, START, start);
            check.same("stock(0, 0) at start " + start, x.stock(0, 0), start);
            check.same("stock(0, 1) at start " + start, x.stock(0, 1), start - 1000);
        }
        check.same("stock(0, -1)", x.stock(0, -1), LotRules.NOTHING);
        check.same("stock(0, 2)", x.stock(0, 2), LotRules.NOTHING);
    }

    /** "What is SPOILT at a period's end": of that period alone, at its most. */
    private static void promise11SpoiltAtAPeriodsEnd() {
        LotRules x = withItems(12, 1);
        x.set(0, START, 1000);
        x.set(0, SHELF, 1);
        for (int p = 1; p <= 12; p++) {
            x.make(0, p, 5000);
        }
        for (int p = 1; p <= 12; p++) {
            check.same("spoilt(0, " + p + ")", x.spoilt(0, p), p == 1 ? 1000 : 5000);
            check.same("stock(0, " + p + ")", x.stock(0, p), 5000);
        }
        check.same("spoilt(0, 0)", x.spoilt(0, 0), -1);
        check.same("spoilt(0, 13)", x.spoilt(0, 13), -1);
    }

    /** "Whether an item is set up in a period: 1, 0. -1". */
    private static void promise12OneOrZero() {
        LotRules x = withItems(12, 6);
        x.make(5, 12, 5000);
        check.same("isSetUp(5, 12)", x.isSetUp(5, 12), 1);
        check.same("isSetUp(5, 11)", x.isSetUp(5, 11), 0);
        check.same("isSetUp(4, 12)", x.isSetUp(4, 12), 0);
        check.same("isSetUp(6, 12)", x.isSetUp(6, 12), -1);
        // A shift by 32 more is the same shift again in Java.
        check.same("isSetUp(37, 12)", x.isSetUp(37, 12), -1);
        check.same("isSetUp(-27, 12)", x.isSetUp(-27, 12), -1);
    }

    /** "(0: at the beginning); -3 none. -1". */
    private static void promise13NoneIsNotNoPeriod() {
        LotRules x = withItems(12, 6);
        check.same("stands(12), none", x.stands(12), -3);
        check.same("stands(13), no period", x.stands(13), -1);
        check.same("stands(-1), no period", x.stands(-1), -1);
        x.make(0, 1, 1);
        x.make(5, 12, 1);
        check.same("stands(0)", x.stands(0), -3);
        check.same("stands(1)", x.stands(1), 0);
        check.same("stands(11)", x.stands(11), 0);
        check.same("stands(12)", x.stands(12), 5);
    }

    private static void promise14TimeOfNoPeriod() {
        LotRules x = withItems(1, 1);
        x.set(0, TIME, 20);
        x.set(0, SETUP_TIME, 200);
        x.make(0, 1, 5000);
        check.same("time(1)", x.time(1), 100200);
        check.same("time(0)", x.time(0), LotRules.NOTHING);
        check.same("time(2)", x.time(2), LotRules.NOTHING);
    }

    private static LotRules allAtTheMost() {
        LotRules x = withItems(12, 6);
        for (int i = 0; i < 6; i++) {
            for (int what : new int[] {SETUP, HOLD, LEAST, START, TIME, SETUP_TIME}) {
                x.set(i, what, MOST[what]);
            }
            for (int p = 1; p <= 12; p++) {
                x.make(i, p, 5000);
            }
        }
        for (int p = 1; p <= 12; p++) {
            x.capacity(p, 0);
        }
        x.over(0, 100);
        return x;
    }

    /** "A PRICE. NOTHING". */
    private static void promise15PricesAtTheMost() {
        LotRules x = allAtTheMost();
        check.same("price(0)", x.price(0), 610000);
        check.same("price(1)", x.price(1), 241200000);
        check.same("price(2)", x.price(2), 721220000);
        check.same("price(3)", x.price(3), 963030000);
        check.same("price(4)", x.price(4), LotRules.NOTHING);
        check.same("price(-1)", x.price(-1), LotRules.NOTHING);
    }

    /** "How many FAULTS": none, and as many as may be. */
    private static void promise16NoFaultsAndAll() {
        check.same("without items", new LotRules(12).faults(), 0);
        check.same("with six items", withItems(12, 6).faults(), 0);
        LotRules x = allAtTheMost();
        check.same("a period over in each", x.faults(), 12);
        for (int i = 0; i < 6; i++) {
            x.set(i, START, 0);
            for (int p = 1; p <= 12; p++) {
                x.need(i, p, 1000);
                x.make(i, p, 999);
            }
        }
        check.same("all kinds in all periods", x.faults(), 156);
        check.same("the last one's kind", x.fault(155, 0), 3);
        check.same("none behind it", x.fault(156, 0), -1);
    }

    /** "3 by how much (OWED; what lacks to LEAST; what is above MOST OVER)". */
    private static void promise17ByHowMuch() {
        LotRules x = allAtTheMost();
        check.same("above MOST OVER at its most", x.fault(0, 3), 601200);
        x.over(1, 10000);
        check.same("above a MOST OVER of 10000", x.fault(0, 3), 591200);
        x.capacity(1, 10000);
        check.same("above both", x.fault(0, 3), 581200);
        LotRules y = withItems(1, 1);
        y.set(0, LEAST, 1000);
        y.make(0, 1, 1);
        check.same("lacks to LEAST at its most", y.fault(0, 3), 999);
        y.make(0, 1, 999);
        check.same("lacks to LEAST at its least", y.fault(0, 3), 1);
        y.need(0, 1, 1000);
        check.same("owed at its least", y.fault(0, 3), 1);
        check.same("its kind", y.fault(0, 0), 1);
        check.same("its item", y.fault(0, 2), 0);
        check.same("the other one's kind", y.fault(1, 0), 2);
        check.same("faults()", y.faults(), 2);
    }

    /** "Of FAULT k, from 0: .. -1; -2 another what". */
    private static void promise17AnotherWhat() {
        LotRules x = withItems(1, 1);
        x.need(0, 1, 5);
        int[] due = {1, 1, 0, 5};
        for (int what = -2; what <= 6; what++) {
            boolean named = what >= 0 && what <= 3;
            check.same("fault(0, " + what + ")", x.fault(0, what), named ? due[what] : -2);
            check.same("fault(1, " + what + ")", x.fault(1, what), -1);
            check.same("fault(-1, " + what + ")", x.fault(-1, what), -1);
        }
    }

    private static void promise18To20OfNoItem() {
        for (int items = 0; items <= 6; items++) {
            LotRules x = withItems(3, items);
            for (int item : new int[] {items, items + 1, -1, 32}) {
                check.same("best(" + item + ")", x.best(item), LotRules.NOTHING);
                check.same("lot(" + item + ", 1)", x.lot(item, 1), -1);
                check.same("from(" + item + ", 1)", x.from(item, 1), LotRules.NOTHING);
                check.same("from(" + item + ", 4)", x.from(item, 4), LotRules.NOTHING);
            }
            for (int i = 0; i < items; i++) {
                check.same("best(" + i + ")", x.best(i), 0);
                check.same("lot(" + i + ", 3)", x.lot(i, 3), 0);
                check.same("from(" + i + ", 4)", x.from(i, 4), 0);
            }
        }
    }

    /** A set-up price of a, a hold price of b, no over price. */
    private static LotRules withTwoPrices(int a, int b) {
        LotRules x = withItems(1, 1);
        x.set(0, SETUP, a);
        x.set(0, HOLD, 1);
        x.set(0, START, b);
        x.make(0, 1, 1);
        x.need(0, 1, 1);
        return x;
    }

    /** "1000 times a PRICE by another one, cut". */
    private static void promise21Cut() {
        int[][] prices = {{1, 1, 1000}, {1, 1000, 1}, {1, 999, 1}, {2, 3, 666}, {1, 3, 333}, {999, 1000, 999},
            {10000, 1, 10000000}, {0, 7, 0}, {10000, 7, 1428571}, {7, 8, 875}};
        for (int[] row : prices) {
            LotRules x = withTwoPrices(row[0], row[1]);
            check.same("1000 * " + row[0] + " / " + row[1], x.share(0, 1), row[2]);
        }
    }

    /** "ArithmeticException: that is 0": the price by which, not the one that is shared. */
    private static void promise21AnotherOneIs0() {
        LotRules x = withTwoPrices(5, 0);
        for (int what = 0; what <= 3; what++) {
            check.shareThrows(x, what, 1);
            check.shareThrows(x, what, 2);
        }
        check.same("0 shared by 5", x.share(1, 0), 0);
        check.same("0 shared by all", x.share(2, 3), 0);
        LotRules free = withTwoPrices(0, 0);
        for (int what = 0; what <= 3; what++) {
            for (int by = 0; by <= 3; by++) {
                check.shareThrows(free, what, by);
            }
        }
    }

    /** "NOTHING (first): no such PRICE". */
    private static void promise21NoSuchPriceFirst() {
        LotRules x = withTwoPrices(5, 0);
        for (int none : new int[] {-1, 4, 5, Integer.MIN_VALUE, Integer.MAX_VALUE}) {
            check.same("share(" + none + ", 1)", x.share(none, 1), LotRules.NOTHING);
            check.same("share(1, " + none + ")", x.share(1, none), LotRules.NOTHING);
            check.same("share(0, " + none + ")", x.share(0, none), LotRules.NOTHING);
            check.same("share(" + none + ", 0)", x.share(none, 0), LotRules.NOTHING);
            check.same("share(" + none + ", " + none + ")", x.share(none, none), LotRules.NOTHING);
        }
    }

    /** 1000 times these prices is more than an int holds. */
    private static void promise21AtTheMost() {
        LotRules x = allAtTheMost();
        check.same("share(3, 0)", x.share(3, 0), 1578737);
        check.same("share(0, 3)", x.share(0, 3), 0);
        check.same("share(2, 1)", x.share(2, 1), 2990);
        check.same("share(1, 2)", x.share(1, 2), 334);
        check.same("share(3, 3)", x.share(3, 3), 1000);
        LotRules y = allAtTheMost();
        for (int i = 0; i < 6; i++) {
            y.set(i, SETUP, i == 0 ? 1 : 0);
        }
        for (int p = 2; p <= 12; p++) {
            y.make(0, p, 0);
        }
        check.same("price(0)", y.price(0), 1);
        check.same("share(2, 0)", y.share(2, 0), 1000 * y.price(2));
        check.same("share(3, 0)", y.share(3, 0), 1000 * y.price(3));
    }

    /** No argument makes a call throw; one that is no item, period or number is refused, whatever the others are. */
    private static void wildArgumentsOfEveryCall() {
        for (String name : Calls.NAMES) {
            long none = Calls.answersLong(name) ? LotRules.NOTHING : name.equals("over") ? -2 : -1;
            boolean refuses = !name.equals("item") && !name.equals("faults");
            for (int wild : WILD) {
                LotRules x = allAtTheMost();
                for (int b : WILD) {
                    long got = Calls.ask(x, name, wild, b, wild);
                    check.holds(name + "(" + wild + ", " + b + ", ..) is refused", !refuses || got == none);
                }
            }
        }
    }

    /** "An object is used for at most 512 calls after it has been made": the last of them counts, too. */
    private static void fiveHundredAndTwelveCalls() {
        LotRules x = new LotRules(12);
        check.same("call 1", x.item(), 0);
        for (int call = 2; call <= 510; call++) {
            check.same("call " + call, x.make(0, 12, call), call == 2 ? 0 : call - 1);
        }
        check.same("call 511", x.stock(0, 12), 510);
        check.same("call 512", x.lot(0, 12), 0);
    }
}
