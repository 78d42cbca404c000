/** Promises 1 to 8: a new object, and the calls that change it. */
public final class InputsTest extends Given {
    private static final Check check = new Check();

    public static void main(String[] args) {
        promise1NearestNumberOfPeriods();
        promise1AllIsZeroAtFirst();
        promise2Item();
        promise3SetTellsWhatItWas();
        promise3SetRefuses();
        promise4Need();
        promise5PartTellsWhatItWas();
        promise5PartRefuses();
        promise5PartNeverRoundInARing();
        promise5RingThroughAllItems();
        promise6Make();
        promise7Capacity();
        promise8Over();
        check.end("InputsTest");
    }

    private static int periodsOf(LotRules x) {
        int last = 0;
        while (last < 100 && x.stands(last + 1) != -1) {
            last++;
        }
        return last;
    }

    private static void promise1NearestNumberOfPeriods() {
        int[][] asked = {{Integer.MIN_VALUE, 1}, {-1, 1}, {0, 1}, {1, 1}, {2, 2}, {7, 7}, {11, 11}, {12, 12}, {13, 12},
            {1000, 12}, {Integer.MAX_VALUE, 12}};
        for (int[] row : asked) {
            check.same("periods of LotRules(" + row[0] + ")", periodsOf(new LotRules(row[0])), row[1]);
        }
    }

    private static void promise1AllIsZeroAtFirst() {
        check.same("NOTHING", LotRules.NOTHING, Long.MIN_VALUE);
        LotRules x = new LotRules(3);
        check.same("gross without items", x.gross(0, 1), -1);
        check.same("stock without items", x.stock(0, 0), LotRules.NOTHING);
        check.same("faults without items", x.faults(), 0);
        check.same("time without items", x.time(3), 0);
        for (int what = 0; what <= 3; what++) {
            check.same("price without items", x.price(what), 0);
        }
        x.item();
        for (int what = 0; what < 8; what++) {
            check.same("number " + what + " at first", x.set(0, what, 1), 0);
        }
        for (int p = 1; p <= 3; p++) {
            check.same("need at first", x.need(0, p, 1), 0);
            check.same("lot at first", x.make(0, p, 1), 0);
            check.same("capacity at first", x.capacity(p, 1), 10000);
        }
        check.same("over price at first", x.over(0, 1), 0);
        check.same("most over at first", x.over(1, 1), 0);
    }

    private static void promise2Item() {
        LotRules x = new LotRules(1);
        for (int i = 0; i < 6; i++) {
            check.same("set of an item that is not there yet", x.set(i, 0, 1), -1);
            check.same("item()", x.item(), i);
            check.same("set of the new item", x.set(i, 0, 1), 0);
        }
        check.same("a seventh item", x.item(), -4);
        check.same("an eighth item", x.item(), -4);
        check.same("set of item 6", x.set(6, 0, 1), -1);
        check.same("set of item 5", x.set(5, 0, 2), 1);
    }

    private static void promise3SetTellsWhatItWas() {
        LotRules x = withItems(2, 2);
        for (int what = 0; what < 8; what++) {
            check.same("set(1, " + what + ") to its most", x.set(1, what, MOST[what]), 0);
            check.same("set(1, " + what + ") above its most", x.set(1, what, MOST[what] + 1), -2);
            check.same("set(1, " + what + ") below 0", x.set(1, what, -1), -2);
            check.same("set(1, " + what + ") to 1", x.set(1, what, 1), MOST[what]);
            check.same("set(1, " + what + ") to 0", x.set(1, what, 0), 1);
        }
        for (int what = 0; what < 8; what++) {
            check.same("the other item's number " + what, x.set(0, what, 1), 0);
        }
        for (int what = 0; what < 8; what++) {
            check.same("number " + what + " apart from the others", x.set(1, what, what % 4), 0);
        }
        for (int what = 0; what < 8; what++) {
            check.same("number " + what + " kept", x.set(1, what, 0), what % 4);
        }
    }

    private static void promise3SetRefuses() {
        LotRules x = withItems(2, 2);
        check.same("set(0, 8, 0)", x.set(0, 8, 0), -2);
        for (int wild : WILD) {
            check.same("set of no item", x.set(wild, 0, 0), -1);
            check.same("set of no number", x.set(0, wild, 0), -2);
            check.same("set outside its bounds", x.set(0, 0, wild), -2);
            check.same("set of no item, before no number", x.set(wild, wild, wild), -1);
        }
        check.same("set(2, 0, 0)", x.set(2, 0, 0), -1);
        check.same("set(2, 8, 0)", x.set(2, 8, 0), -1);
        check.same("set(2, 0, 10001)", x.set(2, 0, 10001), -1);
        check.same("refusals changed nothing", x.set(0, 0, 0), 0);
    }

    private static void promise4Need() {
        LotRules x = withItems(3, 2);
        check.same("need(1, 3, 1000)", x.need(1, 3, 1000), 0);
        check.same("need(1, 3, 1001)", x.need(1, 3, 1001), -2);
        check.same("need(1, 3, -1)", x.need(1, 3, -1), -2);
        check.same("need(1, 3, 5)", x.need(1, 3, 5), 1000);
        check.same("need(1, 1, 6)", x.need(1, 1, 6), 0);
        check.same("need(0, 3, 7)", x.need(0, 3, 7), 0);
        check.same("gross(1, 3)", x.gross(1, 3), 5);
        check.same("gross(1, 1)", x.gross(1, 1), 6);
        check.same("gross(0, 3)", x.gross(0, 3), 7);
        check.same("need(1, 3, 0)", x.need(1, 3, 0), 5);
        check.same("need(1, 0, 1)", x.need(1, 0, 1), -1);
        check.same("need(1, 4, 1)", x.need(1, 4, 1), -1);
        check.same("need(2, 1, 1)", x.need(2, 1, 1), -1);
        check.same("need(1, 4, 1001)", x.need(1, 4, 1001), -1);
        check.same("need(2, 1, -1)", x.need(2, 1, -1), -1);
        for (int wild : WILD) {
            check.same("need of no item", x.need(wild, 1, 0), -1);
            check.same("need in no period", x.need(0, wild, 0), -1);
            check.same("need outside its bounds", x.need(0, 1, wild), -2);
        }
        check.same("a lot is no need", x.make(1, 1, 2), 0);
        check.same("need(1, 1, 6)", x.need(1, 1, 6), 6);
    }

    private static void promise5PartTellsWhatItWas() {
        LotRules x = withItems(1, 3);
        check.same("part(0, 1, 9)", x.part(0, 1, 9), 0);
        check.same("part(0, 1, 10)", x.part(0, 1, 10), -2);
        check.same("part(0, 1, -1)", x.part(0, 1, -1), -2);
        check.same("part(0, 1, 2)", x.part(0, 1, 2), 9);
        check.same("part(0, 2, 3)", x.part(0, 2, 3), 0);
        check.same("part(0, 1, 0)", x.part(0, 1, 0), 2);
        check.same("part(0, 1, 0)", x.part(0, 1, 0), 0);
        check.same("part(0, 2, 3)", x.part(0, 2, 3), 3);
    }

    private static void promise5PartRefuses() {
        LotRules x = withItems(1, 3);
        check.same("part(3, 0, 1)", x.part(3, 0, 1), -1);
        check.same("part(0, 3, 1)", x.part(0, 3, 1), -1);
        check.same("part(3, 3, 1)", x.part(3, 3, 1), -1);
        check.same("part(3, 0, 10)", x.part(3, 0, 10), -1);
        check.same("part(0, 3, 10)", x.part(0, 3, 10), -1);
        check.same("part(0, 3, 0)", x.part(0, 3, 0), -1);
        check.same("part(0, 0, 10)", x.part(0, 0, 10), -2);
        check.same("part(0, 0, -1)", x.part(0, 0, -1), -2);
        check.same("part(0, 0, 1)", x.part(0, 0, 1), -3);
        check.same("part(0, 0, 9)", x.part(0, 0, 9), -3);
        check.same("part(0, 0, 0)", x.part(0, 0, 0), 0);
        for (int wild : WILD) {
            check.same("part that is no item", x.part(wild, 0, 1), -1);
            check.same("part of no item", x.part(0, wild, 1), -1);
            check.same("part outside its bounds", x.part(0, 1, wild), -2);
        }
        check.same("refusals changed nothing", x.part(0, 1, 0), 0);
    }

    private static void promise5PartNeverRoundInARing() {
        LotRules x = withItems(1, 4);
        x.part(2, 0, 1);
        x.part(0, 3, 1);
        check.same("round by one", x.part(0, 2, 1), -3);
        check.same("round by two", x.part(3, 2, 1), -3);
        check.same("a second way is no ring", x.part(2, 3, 4), 0);
        check.same("n = 0 is never a ring", x.part(3, 2, 0), 0);
        check.same("a ring outside its bounds", x.part(3, 2, 10), -2);
        check.same("a refused ring is not kept", x.part(3, 2, 0), 0);
        check.same("not in the ring's way", x.part(1, 2, 1), 0);
        check.same("round by three", x.part(3, 1, 1), -3);
        x.part(2, 0, 0);
        check.same("still round the second way", x.part(3, 2, 1), -3);
        x.part(2, 3, 0);
        check.same("the ring is open", x.part(3, 2, 1), 0);
        check.same("round the new way", x.part(2, 0, 1), -3);
    }

    private static void promise5RingThroughAllItems() {
        int[][] orders = {{0, 1, 2, 3, 4, 5}, {5, 4, 3, 2, 1, 0}, {3, 0, 5, 1, 4, 2}};
        for (int[] order : orders) {
            LotRules x = withItems(1, 6);
            for (int i = 0; i + 1 < order.length; i++) {
                check.same("a link of the chain", x.part(order[i], order[i + 1], 1), 0);
            }
            for (int i = 0; i < order.length; i++) {
                for (int j = i + 1; j < order.length; j++) {
                    check.same("back along the chain", x.part(order[j], order[i], 1), -3);
                }
            }
            check.same("along the chain", x.part(order[0], order[5], 2), 0);
        }
    }

    private static void promise6Make() {
        LotRules x = withItems(3, 2);
        check.same("make(1, 3, 5000)", x.make(1, 3, 5000), 0);
        check.same("make(1, 3, 5001)", x.make(1, 3, 5001), -2);
        check.same("make(1, 3, -1)", x.make(1, 3, -1), -2);
        check.same("make(1, 3, 5)", x.make(1, 3, 5), 5000);
        check.same("make(1, 1, 6)", x.make(1, 1, 6), 0);
        check.same("make(0, 3, 7)", x.make(0, 3, 7), 0);
        check.same("make(1, 3, 0)", x.make(1, 3, 0), 5);
        check.same("stock(1, 3)", x.stock(1, 3), 6);
        check.same("make(1, 0, 1)", x.make(1, 0, 1), -1);
        check.same("make(1, 4, 1)", x.make(1, 4, 1), -1);
        check.same("make(2, 1, 1)", x.make(2, 1, 1), -1);
        check.same("make(1, 4, 5001)", x.make(1, 4, 5001), -1);
        check.same("make(2, 1, -1)", x.make(2, 1, -1), -1);
        for (int wild : WILD) {
            check.same("make of no item", x.make(wild, 1, 0), -1);
            check.same("make in no period", x.make(0, wild, 0), -1);
            check.same("make outside its bounds", x.make(0, 1, wild), -2);
        }
        x.set(1, 2, 100);
        check.same("below LEAST is no refusal", x.make(1, 2, 1), 0);
        check.same("make(1, 1, 6)", x.make(1, 1, 6), 6);
    }

    private static void promise7Capacity() {
        LotRules x = new LotRules(3);
        check.same("capacity(3, 0)", x.capacity(3, 0), 10000);
        check.same("capacity(3, 10001)", x.capacity(3, 10001), -2);
        check.same("capacity(3, -1)", x.capacity(3, -1), -2);
        check.same("capacity(3, 10000)", x.capacity(3, 10000), 0);
        check.same("capacity(3, 8)", x.capacity(3, 8), 10000);
        check.same("capacity(1, 9)", x.capacity(1, 9), 10000);
        check.same("capacity(3, 8)", x.capacity(3, 8), 8);
        check.same("capacity(0, 1)", x.capacity(0, 1), -1);
        check.same("capacity(4, 1)", x.capacity(4, 1), -1);
        check.same("capacity(4, -1)", x.capacity(4, -1), -1);
        for (int wild : WILD) {
            check.same("capacity of no period", x.capacity(wild, 1), -1);
            check.same("capacity outside its bounds", x.capacity(2, wild), -2);
        }
        check.same("refusals changed nothing", x.capacity(2, 1), 10000);
    }

    private static void promise8Over() {
        LotRules x = new LotRules(3);
        check.same("over(0, 100)", x.over(0, 100), 0);
        check.same("over(0, 101)", x.over(0, 101), -2);
        check.same("over(0, 1)", x.over(0, 1), 100);
        check.same("over(1, 10000)", x.over(1, 10000), 0);
        check.same("over(1, 10001)", x.over(1, 10001), -2);
        check.same("over(1, 2)", x.over(1, 2), 10000);
        check.same("over(2, 0)", x.over(2, 0), -2);
        for (int wild : WILD) {
            check.same("over of no such number", x.over(wild, 0), -2);
            check.same("over price outside its bounds", x.over(0, wild), -2);
            check.same("most over outside its bounds", x.over(1, wild), -2);
        }
        check.same("over(0, 0)", x.over(0, 0), 1);
        check.same("over(1, 0)", x.over(1, 0), 2);
    }
}
