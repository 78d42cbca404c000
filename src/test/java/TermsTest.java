/**
 * The section "Terms" of the document, sentence by sentence: each that names an edge has a test of its own here, with
 * the sentence above it. Its refusals are in RefusalsTest, the rows of an item alone in RowsTest.
 */
public final class TermsTest extends Given {
    private static final Check check = new Check();

    public static void main(String[] args) {
        periodsAreOneToT();
        itemsAreSixAtMost();
        boundsOfAnItemsNumbers();
        boundsOfNeedLotAndPart();
        boundsOfTheMachine();
        neverRoundInARing();
        grossOfThatPeriod();
        grossOfEachItemOfWhichItIsAPart();
        lotComesBehindItsLead();
        lotBehindTheLastPeriodNeverComes();
        startIsThereFromPeriod0On();
        startIsTakenAsTheFirstLot();
        owesNothingAtFirst();
        lotThatComesIsThereAtOnce();
        whatIsOwedIsTakenToo();
        whatCameFirstIsTakenFirst();
        takenBeforeItIsSpoilt();
        shelf0SpoilsNothing();
        spoiltJustShelfPeriodsAfterItCame();
        spoiltIsThereNoMore();
        standsForNoItemAtTheBeginning();
        setUpsOfEveryOrder();
        standsOnThroughPeriodsWithoutLots();
        timeOfLotsAndOfThoseSetUp();
        overIsAboveTheCapacity();
        holdWhereStockIsAbove0();
        setUpPricesOfThoseSetUp();
        faultsByPeriodsThenKindsThenItems();
        owesAtItsEnd();
        lotAbove0AndBelowLeast();
        overAboveMostOver();
        check.end("TermsTest");
    }

    /** "There are PERIODS 1 .. T (T 1 to 12)". */
    private static void periodsAreOneToT() {
        for (int last = 1; last <= 12; last++) {
            for (String name : new String[] {"need", "make", "gross", "spoilt", "isSetUp", "lot"}) {
                LotRules x = withItems(last, 1);
                check.same(name + " in period 0", Calls.ask(x, name, 0, 0, 0), -1);
                check.same(name + " in period 1", Calls.ask(x, name, 0, 1, 0), 0);
                check.same(name + " in period " + last, Calls.ask(x, name, 0, last, 0), 0);
                check.same(name + " behind period " + last, Calls.ask(x, name, 0, last + 1, 0), -1);
            }
            LotRules x = withItems(last, 1);
            check.same("capacity(0, 1)", x.capacity(0, 1), -1);
            check.same("capacity of the last period", x.capacity(last, 10000), 10000);
            check.same("capacity behind it", x.capacity(last + 1, 1), -1);
            check.same("time(0)", x.time(0), LotRules.NOTHING);
            check.same("time of the last period", x.time(last), 0);
            check.same("time behind it", x.time(last + 1), LotRules.NOTHING);
            check.same("stock(0, -1)", x.stock(0, -1), LotRules.NOTHING);
            check.same("stock(0, 0)", x.stock(0, 0), 0);
            check.same("stock behind the last period", x.stock(0, last + 1), LotRules.NOTHING);
            check.same("stands(-1)", x.stands(-1), -1);
            check.same("stands(0)", x.stands(0), -3);
            check.same("stands behind the last period", x.stands(last + 1), -1);
            check.same("from(0, 0)", x.from(0, 0), LotRules.NOTHING);
            check.same("from T + 1", x.from(0, last + 1), 0);
            check.same("from T + 2", x.from(0, last + 2), LotRules.NOTHING);
        }
    }

    /** "ITEMS (6 at most)". */
    private static void itemsAreSixAtMost() {
        String[] names = {"set", "need", "make", "gross", "stock", "spoilt", "isSetUp", "lot", "best", "from"};
        for (int items = 0; items <= 6; items++) {
            LotRules x = withItems(2, items);
            for (String name : names) {
                long none = Calls.answersLong(name) ? LotRules.NOTHING : -1;
                check.same(name + " of item " + items, Calls.ask(x, name, items, 1, 0), none);
                if (items > 0) {
                    check.same(name + " of item " + (items - 1), Calls.ask(x, name, items - 1, 1, 0), 0);
                }
            }
            check.same("item()", x.item(), items < 6 ? items : -4);
        }
    }

    private static void bounds(LotRules x, String name, int a, int b, int most, int first) {
        bound(x, name, a, b, most, first);
        bound(x, name, a, b, most + 1, -2);
        bound(x, name, a, b, -1, -2);
        bound(x, name, a, b, 0, most);
        bound(x, name, a, b, Integer.MAX_VALUE, -2);
        bound(x, name, a, b, Integer.MIN_VALUE, -2);
        bound(x, name, a, b, most - 1, 0);
        bound(x, name, a, b, first, most - 1);
    }

    /** The value is the call's last argument. */
    private static void bound(LotRules x, String name, int a, int b, int v, long due) {
        boolean two = name.equals("capacity") || name.equals("over");
        String call = two ? name + "(" + a + ", " + v + ")" : name + "(" + a + ", " + b + ", " + v + ")";
        check.same(call, two ? Calls.ask(x, name, a, v, 0) : Calls.ask(x, name, a, b, v), due);
    }

    /** "each with: 0 SETUP price (0 to 10000), .. 7 LEAD (0 to 3); all 0 at first". */
    private static void boundsOfAnItemsNumbers() {
        int[] most = {10000, 100, 1000, 12, 1000, 20, 200, 3};
        for (int i = 0; i < 6; i++) {
            LotRules x = withItems(1, 6);
            for (int what = 0; what < 8; what++) {
                bounds(x, "set", i, what, most[what], 0);
            }
        }
    }

    /** "NEED .. 0 to 1000", "a PART of another one, n times (0 to 9)", "LOT .. 0 to 5000. All 0 at first". */
    private static void boundsOfNeedLotAndPart() {
        for (int i = 0; i < 6; i++) {
            LotRules x = withItems(12, 6);
            bounds(x, "need", i, 1, 1000, 0);
            bounds(x, "need", i, 12, 1000, 0);
            bounds(x, "make", i, 1, 5000, 0);
            bounds(x, "make", i, 12, 5000, 0);
            for (int of = 0; of < 6; of++) {
                if (of != i) {
                    bounds(x, "part", i, of, 9, 0);
                }
            }
        }
    }

    /** "CAPACITY of each period (0 to 10000, at first 10000), OVER PRICE (0 to 100 ..), MOST OVER (0 to 10000 ..)". */
    private static void boundsOfTheMachine() {
        LotRules x = new LotRules(12);
        for (int p = 1; p <= 12; p++) {
            bounds(x, "capacity", p, 0, 10000, 10000);
        }
        bounds(x, "over", 0, 0, 100, 0);
        bounds(x, "over", 1, 0, 10000, 0);
        check.same("capacity(12, 1), apart from those of the machine", x.capacity(12, 1), 10000);
    }

    /** "An item is a PART of another one .., never round in a ring": rings of each length, closed at each link. */
    private static void neverRoundInARing() {
        for (int length = 1; length <= 6; length++) {
            for (int closing = 0; closing < length; closing++) {
                LotRules x = withItems(1, 6);
                for (int i = 0; i < length; i++) {
                    if (i != closing) {
                        check.same("a link of a chain", x.part(i, (i + 1) % length, 1), 0);
                    }
                }
                int to = (closing + 1) % length;
                check.same("the link that closes a ring of " + length, x.part(closing, to, 1), -3);
                check.same("0 times closes none", x.part(closing, to, 0), 0);
            }
        }
    }

    /** "GROSS of an item in a period: .. n times that one's LOT in that period". */
    private static void grossOfThatPeriod() {
        for (int lead = 0; lead <= 3; lead++) {
            LotRules x = withItems(12, 2);
            x.part(0, 1, 9);
            x.set(0, LEAD, 3 - lead);
            x.set(1, LEAD, lead);
            for (int p = 1; p <= 12; p++) {
                x.need(0, p, 100 * p % 1001);
                x.make(1, p, p);
            }
            for (int p = 1; p <= 12; p++) {
                check.same("gross(0, " + p + "), lead " + lead, x.gross(0, p), 100 * p % 1001 + 9 * p);
                check.same("gross(1, " + p + ")", x.gross(1, p), 0);
            }
        }
    }

    /** "its NEED, and for each item of which it is a PART n times". */
    private static void grossOfEachItemOfWhichItIsAPart() {
        int[] lots = {1, 10, 100, 1000, 2000, 5000};
        for (int i = 0; i < 6; i++) {
            LotRules x = withItems(1, 6);
            int due = 7;
            x.need(i, 1, 7);
            for (int whole = 0; whole < 6; whole++) {
                x.make(whole, 1, lots[whole]);
                check.same("gross so far", x.gross(i, 1), due);
                if (whole != i) {
                    x.part(i, whole, whole + 1);
                    due += (whole + 1) * lots[whole];
                }
            }
            check.same("gross(" + i + ", 1)", x.gross(i, 1), due);
        }
        LotRules x = withItems(1, 2);
        x.make(0, 1, 5);
        check.same("no needs, no part", x.gross(0, 1), 0);
        x.part(0, 1, 9);
        check.same("a part of what has no lot", x.gross(0, 1), 0);
        check.same("what it is a part of", x.gross(1, 1), 0);
    }

    /** "A LOT COMES LEAD periods behind its own". */
    private static void lotComesBehindItsLead() {
        for (int lead = 0; lead <= 3; lead++) {
            for (int made = 1; made <= 12; made++) {
                LotRules x = withItems(12, 1);
                x.set(0, LEAD, lead);
                x.make(0, made, 5000);
                for (int p = 0; p <= 12; p++) {
                    String call = "stock(0, " + p + ") of a lot in " + made + ", lead " + lead;
                    check.same(call, x.stock(0, p), p >= made + lead ? 5000 : 0);
                }
            }
        }
    }

    /** "(behind T: never)". */
    private static void lotBehindTheLastPeriodNeverComes() {
        for (int last = 1; last <= 4; last++) {
            for (int lead = 0; lead <= 3; lead++) {
                LotRules x = withItems(last, 1);
                x.set(0, LEAD, lead);
                x.set(0, HOLD, 1);
                x.make(0, last, 8);
                check.same("T " + last + ", lead " + lead, x.stock(0, last), lead == 0 ? 8 : 0);
                check.same("its HOLD price", x.price(1), lead == 0 ? 8 : 0);
                x.need(0, last, 8);
                check.same("what is owed", x.faults(), lead == 0 ? 0 : 1);
            }
        }
    }

    /** "an item has START from period 0 on". */
    private static void startIsThereFromPeriod0On() {
        for (int start : new int[] {0, 1, 1000}) {
            LotRules x = withItems(12, 2);
            x.set(1, START, start);
            x.set(1, LEAD, 3);
            for (int p = 0; p <= 12; p++) {
                check.same("stock(1, " + p + ")", x.stock(1, p), start);
                check.same("stock(0, " + p + ")", x.stock(0, p), 0);
            }
            x.need(1, 1, 1000);
            check.same("stock(1, 0) is before the first need", x.stock(1, 0), start);
            check.same("stock(1, 1)", x.stock(1, 1), start - 1000);
        }
    }

    /** "(as a lot that came then)". */
    private static void startIsTakenAsTheFirstLot() {
        LotRules x = withItems(3, 1);
        x.set(0, START, 5);
        x.set(0, SHELF, 2);
        x.make(0, 1, 5);
        x.need(0, 1, 4);
        check.same("what is left of START spoils in 2", x.spoilt(0, 2), 1);
        check.same("the lot of period 1 spoils in 3", x.spoilt(0, 3), 5);
        x.need(0, 1, 6);
        check.same("nothing is left of START", x.spoilt(0, 2), 0);
        check.same("some is left of the lot", x.spoilt(0, 3), 4);
    }

    /** "and owes nothing". */
    private static void owesNothingAtFirst() {
        LotRules x = withItems(1, 6);
        for (int i = 0; i < 6; i++) {
            check.same("stock(" + i + ", 0)", x.stock(i, 0), 0);
            check.same("stock(" + i + ", 1)", x.stock(i, 1), 0);
        }
        check.same("faults()", x.faults(), 0);
        x.need(0, 1, 1000);
        check.same("stock(0, 0), before anything is needed", x.stock(0, 0), 0);
    }

    /** "In each period, in order: its LOT that COMES is there". */
    private static void lotThatComesIsThereAtOnce() {
        for (int p = 1; p <= 4; p++) {
            LotRules x = withItems(4, 1);
            x.make(0, p, 6);
            x.need(0, p, 6);
            check.same("stock(0, " + p + ")", x.stock(0, p), 0);
            check.same("faults()", x.faults(), 0);
            x.need(0, p, 7);
            check.same("one lacks", x.stock(0, p), -1);
            check.same("faults() by what lacks", x.faults(), 5 - p);
        }
    }

    /** "what it owes and its GROSS are taken from what is there, ..; what lacks is OWED". */
    private static void whatIsOwedIsTakenToo() {
        LotRules x = withItems(4, 1);
        needs(x, 0, 5, 5, 5, 5);
        lots(x, 0, 0, 3, 12, 5);
        long[] due = {0, -5, -7, 0, 0};
        for (int p = 0; p <= 4; p++) {
            check.same("stock(0, " + p + ")", x.stock(0, p), due[p]);
        }
        check.same("periods in which it owes", x.faults(), 2);
        x.set(0, SHELF, 1);
        x.make(0, 3, 14);
        check.same("what was owed cannot spoil", x.spoilt(0, 4), 0);
        check.same("stock(0, 4) from two lots", x.stock(0, 4), 2);
        x.make(0, 3, 20);
        check.same("what is left of the older lot", x.spoilt(0, 4), 3);
    }

    /** "what came first first". */
    private static void whatCameFirstIsTakenFirst() {
        for (int taken = 0; taken <= 10; taken++) {
            LotRules x = withItems(7, 1);
            x.set(0, START, 1);
            x.set(0, SHELF, 4);
            lots(x, 0, 2, 3, 4);
            x.need(0, 3, taken);
            int[] came = {1, 2, 3, 4};
            int before = 0;
            for (int lot = 0; lot < 4; lot++) {
                int left = came[lot] - Math.max(0, Math.min(came[lot], taken - before));
                before += came[lot];
                check.same(taken + " taken, left of lot " + lot, x.spoilt(0, 4 + lot), left);
            }
        }
    }

    /** "Then, if SHELF is above 0, what is left of a lot that came SHELF periods before is SPOILT". */
    private static void takenBeforeItIsSpoilt() {
        for (int shelf = 1; shelf <= 11; shelf++) {
            LotRules x = withItems(12, 1);
            x.set(0, SHELF, shelf);
            x.make(0, 1, 9);
            x.need(0, 1 + shelf, 9);
            check.same("spoilt, all taken in its last period", x.spoilt(0, 1 + shelf), 0);
            check.same("stock", x.stock(0, 1 + shelf), 0);
            x.need(0, 1 + shelf, 8);
            check.same("spoilt, all but one taken", x.spoilt(0, 1 + shelf), 1);
            check.same("no fault", x.faults(), 0);
            if (shelf < 11) {
                x.need(0, 2 + shelf, 1);
                check.same("owed a period later", x.stock(0, 2 + shelf), -1);
            }
        }
    }

    /** "if SHELF is above 0". */
    private static void shelf0SpoilsNothing() {
        LotRules x = withItems(12, 1);
        x.set(0, START, 1000);
        for (int p = 1; p <= 12; p++) {
            x.make(0, p, 10);
        }
        for (int p = 1; p <= 12; p++) {
            check.same("spoilt(0, " + p + ")", x.spoilt(0, p), 0);
            check.same("stock(0, " + p + ")", x.stock(0, p), 1000 + 10 * p);
        }
    }

    /** "what is left of a lot that came SHELF periods before is SPOILT": also behind its LEAD. */
    private static void spoiltJustShelfPeriodsAfterItCame() {
        for (int shelf = 1; shelf <= 12; shelf++) {
            for (int lead = 0; lead <= 3; lead++) {
                LotRules x = withItems(12, 1);
                x.set(0, SHELF, shelf);
                x.set(0, LEAD, lead);
                x.make(0, 2, 9);
                for (int p = 1; p <= 12; p++) {
                    int end = 2 + lead + shelf;
                    String when = " in " + p + ", shelf " + shelf + ", lead " + lead;
                    check.same("spoilt" + when, x.spoilt(0, p), p == end ? 9 : 0);
                    check.same("stock" + when, x.stock(0, p), p >= 2 + lead && p < end ? 9 : 0);
                }
            }
        }
    }

    /** "it is there no more. STOCK is what is there then, less what is OWED". */
    private static void spoiltIsThereNoMore() {
        LotRules x = withItems(3, 1);
        x.set(0, START, 10);
        x.set(0, SHELF, 1);
        x.set(0, HOLD, 100);
        needs(x, 0, 3, 4, 0);
        check.same("spoilt(0, 1)", x.spoilt(0, 1), 7);
        check.same("stock(0, 1)", x.stock(0, 1), 0);
        check.same("spoilt(0, 2)", x.spoilt(0, 2), 0);
        check.same("stock(0, 2)", x.stock(0, 2), -4);
        check.same("stock(0, 3)", x.stock(0, 3), -4);
        check.same("price(1)", x.price(1), 0);
        check.same("fault(0, 1)", x.fault(0, 1), 2);
        LotRules y = withItems(3, 1);
        y.set(0, START, 10);
        y.set(0, SHELF, 1);
        y.make(0, 2, 5);
        y.need(0, 3, 3);
        check.same("what is spoilt is not taken in place of a later lot", y.spoilt(0, 3), 2);
    }

    /** "at the beginning the machine stands for no item". */
    private static void standsForNoItemAtTheBeginning() {
        for (int items = 0; items <= 6; items++) {
            LotRules x = withItems(12, items);
            for (int p = 0; p <= 12; p++) {
                check.same("stands(" + p + ")", x.stands(p), -3);
            }
        }
        for (int i = 0; i < 6; i++) {
            LotRules x = withItems(2, 6);
            x.make(i, 1, 1);
            check.same("stands(0)", x.stands(0), -3);
            check.same("the first lot is set up", x.isSetUp(i, 1), 1);
            check.same("stands(1)", x.stands(1), i);
        }
    }

    /** "each of these is set up, but that for which the machine stands, which is made first, if it has one; ..". */
    private static void setUpsOfEveryOrder() {
        for (int stood = 0; stood < 6; stood++) {
            for (int made = 0; made < 64; made++) {
                LotRules x = withItems(2, 6);
                x.make(stood, 1, 1);
                int behind = stood;
                for (int i = 0; i < 6; i++) {
                    x.make(i, 2, made >> i & 1);
                    if (i != stood && (made >> i & 1) == 1) {
                        behind = i;
                    }
                }
                String when = " when " + stood + " stood, lots " + Integer.toBinaryString(made);
                check.same("stands(2)" + when, x.stands(2), behind);
                for (int i = 0; i < 6; i++) {
                    check.same("isSetUp(" + i + ", 2)" + when, x.isSetUp(i, 2), i == stood ? 0 : made >> i & 1);
                }
            }
        }
    }

    /** "In a period in which items have LOTS": any other one leaves the machine as it stands. */
    private static void standsOnThroughPeriodsWithoutLots() {
        LotRules x = withItems(12, 2);
        x.make(1, 2, 1);
        x.make(1, 12, 1);
        check.same("stands(1)", x.stands(1), -3);
        for (int p = 2; p <= 12; p++) {
            check.same("stands(" + p + ")", x.stands(p), 1);
        }
        check.same("isSetUp(1, 2)", x.isSetUp(1, 2), 1);
        check.same("isSetUp(1, 7), without a lot", x.isSetUp(1, 7), 0);
        check.same("isSetUp(1, 12), carried over", x.isSetUp(1, 12), 0);
        x.make(0, 11, 1);
        check.same("isSetUp(1, 12), not carried over", x.isSetUp(1, 12), 1);
    }

    /** "TIME of a period: LOTS by TIMES, and SETUP TIMES of those set up". */
    private static void timeOfLotsAndOfThoseSetUp() {
        LotRules x = withItems(12, 6);
        for (int i = 0; i < 6; i++) {
            x.set(i, TIME, 20);
            x.set(i, SETUP_TIME, 200);
            for (int p = 1; p <= 12; p++) {
                x.make(i, p, 5000);
            }
        }
        check.same("all set up, all at the most", x.time(1), 601200);
        for (int p = 2; p <= 12; p++) {
            check.same("all but one set up in " + p, x.time(p), 601000);
        }
        LotRules y = withItems(2, 1);
        check.same("no lots", y.time(1), 0);
        y.set(0, SETUP_TIME, 200);
        check.same("no set-up without a lot", y.time(1), 0);
        y.make(0, 1, 1);
        check.same("a set-up alone", y.time(1), 200);
        y.make(0, 2, 1);
        y.set(0, TIME, 1);
        check.same("carried over", y.time(2), 1);
    }

    /** "OVER: what that is above the CAPACITY, or 0". */
    private static void overIsAboveTheCapacity() {
        for (int p = 1; p <= 12; p++) {
            LotRules x = withItems(12, 1);
            x.set(0, TIME, 1);
            x.make(0, p, 50);
            x.over(0, 1);
            int[][] capacityAndOver = {{10000, 0}, {51, 0}, {50, 0}, {49, 1}, {1, 49}, {0, 50}};
            for (int[] row : capacityAndOver) {
                x.capacity(p, row[0]);
                check.same("price(2) at capacity " + row[0], x.price(2), row[1]);
            }
            x.capacity(p, 50);
            x.capacity(p % 12 + 1, 0);
            check.same("price(2), another period has no time", x.price(2), 0);
        }
        LotRules x = withItems(1, 1);
        x.set(0, TIME, 20);
        x.over(0, 1);
        x.make(0, 1, 500);
        check.same("price(2) just at the first capacity", x.price(2), 0);
        x.make(0, 1, 501);
        check.same("price(2) above the first capacity", x.price(2), 20);
    }

    /** "1 HOLD prices by STOCK, where that is above 0, at the end of each period". */
    private static void holdWhereStockIsAbove0() {
        LotRules x = withItems(1, 2);
        x.set(0, HOLD, 100);
        x.set(1, HOLD, 1);
        x.set(0, START, 10);
        int[][] needAndPrice = {{0, 1000}, {9, 100}, {10, 0}, {11, 0}, {1000, 0}};
        for (int[] row : needAndPrice) {
            x.need(0, 1, row[0]);
            check.same("price(1) at need " + row[0], x.price(1), row[1]);
        }
        x.set(1, START, 5);
        check.same("price(1): what one owes is not taken from the other", x.price(1), 5);
        LotRules y = withItems(12, 1);
        y.set(0, HOLD, 1);
        y.make(0, 12, 7);
        check.same("price(1) of the last period", y.price(1), 7);
        y.set(0, START, 1);
        check.same("price(1): START pays in 1 .. T, not in 0", y.price(1), 19);
    }

    /** "0 SETUP prices of all that were set up". */
    private static void setUpPricesOfThoseSetUp() {
        LotRules x = withItems(12, 6);
        for (int i = 0; i < 6; i++) {
            x.set(i, SETUP, 10000);
        }
        check.same("price(0) without lots", x.price(0), 0);
        for (int i = 0; i < 6; i++) {
            for (int p = 1; p <= 12; p++) {
                x.make(i, p, 1);
            }
        }
        check.same("price(0) at the most: one is carried over in each period but the first", x.price(0), 610000);
        LotRules y = withItems(12, 1);
        y.set(0, SETUP, 10000);
        y.make(0, 12, 1);
        check.same("price(0) of the last period", y.price(0), 10000);
        y.make(0, 1, 1);
        check.same("price(0), carried over to the last one", y.price(0), 10000);
    }

    /** "FAULTS, by periods, in each by kinds, then items". */
    private static void faultsByPeriodsThenKindsThenItems() {
        LotRules x = withItems(12, 6);
        for (int i = 0; i < 6; i++) {
            x.set(i, LEAST, 2);
            x.set(i, TIME, 1);
            x.need(i, 1, 100);
            for (int p = 1; p <= 12; p++) {
                x.make(i, p, 1);
            }
        }
        for (int p = 1; p <= 12; p++) {
            x.capacity(p, p % 2 == 0 ? 6 : 5);
        }
        int k = 0;
        for (int p = 1; p <= 12; p++) {
            int inThis = p % 2 == 0 ? 12 : 13;
            for (int place = 0; place < inThis; place++) {
                check.same("kind of fault " + k, x.fault(k, 0), 1 + place / 6);
                check.same("period of fault " + k, x.fault(k, 1), p);
                // In the first period alone, as more would be above 512 calls.
                if (p == 1) {
                    check.same("item of fault " + k, x.fault(k, 2), place == 12 ? -3 : place % 6);
                }
                k++;
            }
        }
        check.same("faults()", x.faults(), k);
        check.same("fault behind the last one", x.fault(k, 0), -1);
    }

    /** "1 an item OWES something at its end". */
    private static void owesAtItsEnd() {
        for (int p = 1; p <= 12; p++) {
            LotRules x = withItems(12, 1);
            x.set(0, START, 7);
            x.need(0, p, 7);
            check.same("all is there in " + p, x.faults(), 0);
            x.need(0, p, 8);
            check.same("owed from " + p + " on", x.faults(), 13 - p);
            check.same("kind", x.fault(0, 0), 1);
            check.same("period", x.fault(0, 1), p);
            check.same("amount", x.fault(12 - p, 3), 1);
            if (p < 12) {
                x.make(0, p + 1, 1);
                check.same("owed in " + p + " alone", x.faults(), 1);
            }
        }
    }

    /** "2 a LOT is above 0 and below LEAST". */
    private static void lotAbove0AndBelowLeast() {
        int[][] leastLotLacks = {{0, 0, 0}, {0, 1, 0}, {1, 0, 0}, {1, 1, 0}, {2, 1, 1}, {1000, 0, 0}, {1000, 1, 999},
            {1000, 999, 1}, {1000, 1000, 0}, {1000, 1001, 0}, {1000, 5000, 0}};
        for (int[] row : leastLotLacks) {
            LotRules x = withItems(2, 2);
            x.set(1, LEAST, row[0]);
            x.set(1, LEAD, 3);
            x.make(1, 2, row[1]);
            String when = " at least " + row[0] + ", lot " + row[1];
            check.same("faults()" + when, x.faults(), row[2] > 0 ? 1 : 0);
            check.same("kind" + when, x.fault(0, 0), row[2] > 0 ? 2 : -1);
            check.same("period" + when, x.fault(0, 1), row[2] > 0 ? 2 : -1);
            check.same("item" + when, x.fault(0, 2), row[2] > 0 ? 1 : -1);
            check.same("amount" + when, x.fault(0, 3), row[2] > 0 ? row[2] : -1);
        }
    }

    /** "3 OVER is above MOST OVER". */
    private static void overAboveMostOver() {
        int[][] capacityMostAbove = {{10000, 0, 0}, {100, 0, 0}, {99, 0, 1}, {99, 1, 0}, {0, 99, 1}, {0, 100, 0},
            {0, 101, 0}, {0, 10000, 0}, {0, 0, 100}, {101, 0, 0}};
        for (int[] row : capacityMostAbove) {
            LotRules x = withItems(2, 1);
            x.set(0, TIME, 2);
            x.make(0, 2, 50);
            x.capacity(2, row[0]);
            x.over(1, row[1]);
            String when = " at capacity " + row[0] + ", most over " + row[1];
            check.same("faults()" + when, x.faults(), row[2] > 0 ? 1 : 0);
            check.same("kind" + when, x.fault(0, 0), row[2] > 0 ? 3 : -1);
            check.same("period" + when, x.fault(0, 1), row[2] > 0 ? 2 : -1);
            check.same("item" + when, x.fault(0, 2), row[2] > 0 ? -3 : -1);
            check.same("amount" + when, x.fault(0, 3), row[2] > 0 ? row[2] : -1);
        }
    }
}
