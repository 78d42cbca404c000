import java.util.List;

/**
 * The sentence "REFUSALS change nothing; of several the first one here: -1 .., -2 .., -3 .., -4 ..": every refusal of
 * every call on an object with something of each kind, and afterwards all that can be asked of that object.
 */
public final class RefusalsTest extends Given {
    private static final int PERIODS = Something.PERIODS;
    private static final int ITEMS = Something.ITEMS;

    private static final Check check = new Check();
    private static final List<String> untouched = Something.told(Something.ofEach(), PERIODS, ITEMS);

    public static void main(String[] args) {
        thereIsSomethingOfEach();
        questionsChangeNothing();
        noSuchItem();
        noSuchPeriod();
        bothItemAndPeriodAreWrong();
        outsideItsBounds();
        noSuchNumberFaultOrPrice();
        aPartOfItself();
        noRoom();
        aDivisionByZeroChangesNothing();
        objectsAreApart();
        check.end("RefusalsTest");
    }

    private static void refused(int refusal, String name, int a, int b, int c) {
        LotRules x = Something.ofEach();
        long due = Calls.answersLong(name) ? LotRules.NOTHING : refusal;
        check.same(Something.called(name, a, b, c), Calls.ask(x, name, a, b, c), due);
        sameAnswers("after " + Something.called(name, a, b, c), Something.told(x, PERIODS, ITEMS), untouched);
    }

    private static void sameAnswers(String when, List<String> got, List<String> due) {
        check.same(when + ": how many answers", got.size(), due.size());
        for (int i = 0; i < Math.min(got.size(), due.size()); i++) {
            check.holds(when + ": " + got.get(i) + ", due is " + due.get(i), got.get(i).equals(due.get(i)));
        }
    }

    /** Without this the other tests could compare objects on which nothing can change. */
    private static void thereIsSomethingOfEach() {
        LotRules x = Something.ofEach();
        boolean[] kinds = new boolean[4];
        for (int k = 0; k < x.faults(); k++) {
            kinds[x.fault(k, 0)] = true;
        }
        check.holds("faults of each kind", kinds[1] && kinds[2] && kinds[3]);
        for (int what = 0; what <= 3; what++) {
            check.holds("price(" + what + ") above 0", x.price(what) > 0);
        }
        int lost = 0;
        for (int p = 1; p <= PERIODS; p++) {
            lost += x.spoilt(0, p) + x.spoilt(1, p);
        }
        check.holds("something is spoilt", lost > 0);
        check.holds("best(0) above 0", x.best(0) > 0);
    }

    private static void questionsChangeNothing() {
        for (String name : Calls.QUESTIONS) {
            for (int a = 0; a <= 3; a++) {
                LotRules x = Something.ofEach();
                Calls.ask(x, name, a, 1, 0);
                sameAnswers("after " + Something.called(name, a, 1, 0), Something.told(x, PERIODS, ITEMS), untouched);
            }
        }
    }

    private static void noSuchItem() {
        int[] wrong = {-1, ITEMS, 5, 6, 32, 64, Integer.MIN_VALUE, Integer.MAX_VALUE, 1 << 30};
        String[] names = {"set", "need", "part", "make", "gross", "stock", "spoilt", "isSetUp", "best", "lot", "from"};
        for (int item : wrong) {
            for (String name : names) {
                refused(-1, name, item, 1, 1);
            }
            refused(-1, "part", 0, item, 1);
            refused(-1, "part", 0, item, 0);
            refused(-1, "part", item, item, 0);
        }
    }

    private static void noSuchPeriod() {
        int[] wrong = {-1, 0, PERIODS + 1, PERIODS + 2, 12, 13, 32, Integer.MIN_VALUE, Integer.MAX_VALUE, 1 << 30};
        for (int period : wrong) {
            for (String name : new String[] {"need", "make", "gross", "spoilt", "isSetUp", "lot"}) {
                refused(-1, name, 0, period, 1);
            }
            refused(-1, "capacity", period, 1, 0);
            refused(-1, "time", period, 0, 0);
            if (period != 0) {
                refused(-1, "stock", 0, period, 0);
                refused(-1, "stands", period, 0, 0);
            }
            if (period != PERIODS + 1) {
                refused(-1, "from", 0, period, 0);
            }
        }
    }

    private static void bothItemAndPeriodAreWrong() {
        for (String name : new String[] {"need", "make", "gross", "stock", "spoilt", "isSetUp", "lot", "from"}) {
            refused(-1, name, ITEMS, PERIODS + 2, -1);
            refused(-1, name, -1, -1, 20000);
        }
        // Period 0 of stock and T + 1 of from are answered, but not for an item that is not there.
        refused(-1, "stock", ITEMS, 0, 0);
        refused(-1, "from", ITEMS, PERIODS + 1, 0);
    }

    private static void outsideItsBounds() {
        for (int wrong : new int[] {-1, 10001, Integer.MIN_VALUE, Integer.MAX_VALUE, 1 << 30}) {
            for (int what = 0; what < MOST.length; what++) {
                refused(-2, "set", 1, what, wrong);
                refused(-1, "set", ITEMS, what, wrong);
            }
            refused(-2, "need", 1, 2, wrong);
            refused(-1, "need", ITEMS, 2, wrong);
            refused(-1, "need", 1, 0, wrong);
            refused(-2, "make", 1, 2, wrong);
            refused(-1, "make", ITEMS, 2, wrong);
            refused(-1, "make", 1, PERIODS + 1, wrong);
            refused(-2, "part", 1, 0, wrong);
            refused(-1, "part", ITEMS, 0, wrong);
            refused(-1, "part", 1, ITEMS, wrong);
            refused(-2, "capacity", 2, wrong, 0);
            refused(-1, "capacity", 0, wrong, 0);
            refused(-1, "capacity", PERIODS + 1, wrong, 0);
            refused(-2, "over", 0, wrong, 0);
            refused(-2, "over", 1, wrong, 0);
        }
        for (int what = 0; what < MOST.length; what++) {
            refused(-2, "set", 1, what, MOST[what] + 1);
        }
        refused(-2, "need", 1, 2, 1001);
        refused(-2, "make", 1, 2, 5001);
        refused(-2, "part", 1, 0, 10);
        refused(-2, "over", 0, 101, 0);
    }

    private static void noSuchNumberFaultOrPrice() {
        int faults = Something.ofEach().faults();
        for (int wrong : new int[] {-1, 8, 32, Integer.MIN_VALUE, Integer.MAX_VALUE, 1 << 30}) {
            refused(-2, "set", 0, wrong, 0);
            refused(-2, "set", 0, wrong, -1);
            refused(-1, "set", ITEMS, wrong, 0);
            refused(-2, "over", wrong, 0, 0);
            refused(-2, "over", wrong, -1, 0);
            refused(-1, "price", wrong, 0, 0);
            refused(-1, "share", wrong, 0, 0);
            refused(-1, "share", 0, wrong, 0);
            refused(-1, "share", wrong, wrong, 0);
            refused(-2, "fault", 0, wrong, 0);
            refused(-2, "fault", faults - 1, wrong, 0);
            refused(-1, "fault", faults, wrong, 0);
        }
        refused(-2, "over", 2, 0, 0);
        refused(-1, "price", 4, 0, 0);
        refused(-1, "share", 4, 0, 0);
        refused(-1, "share", 0, 4, 0);
        refused(-2, "fault", 0, 4, 0);
        // Four times the last of these is 0 again in an int, four times the one before it is 4.
        int[] none = {-1, faults, faults + 1, Integer.MIN_VALUE, Integer.MAX_VALUE, (1 << 30) + 1, 1 << 30};
        for (int what = 0; what <= 4; what++) {
            for (int k : none) {
                refused(-1, "fault", k, what, 0);
            }
        }
    }

    private static void aPartOfItself() {
        for (int n = 1; n <= 9; n++) {
            for (int i = 0; i < ITEMS; i++) {
                refused(-3, "part", i, i, n);
            }
            refused(-3, "part", 0, 1, n);
            refused(-3, "part", 1, 2, n);
            refused(-3, "part", 0, 2, n);
        }
        for (int wrong : new int[] {-1, 10}) {
            refused(-2, "part", 0, 0, wrong);
            refused(-2, "part", 0, 2, wrong);
        }
        for (int[] open : new int[][] {{0, 0}, {0, 1}, {1, 2}, {0, 2}, {1, 1}}) {
            LotRules x = Something.ofEach();
            check.same("part(" + open[0] + ", " + open[1] + ", 0)", x.part(open[0], open[1], 0), 0);
            sameAnswers("after a part 0 times", Something.told(x, PERIODS, ITEMS), untouched);
        }
    }

    private static void noRoom() {
        LotRules full = withItems(2, 6);
        LotRules refusing = withItems(2, 6);
        for (int i = 0; i < 6; i++) {
            full.make(i, 1, i + 1);
            refusing.make(i, 1, i + 1);
        }
        for (int more = 0; more < 20; more++) {
            check.same("item() when there are six", refusing.item(), -4);
        }
        check.same("set of a seventh item", refusing.set(6, 0, 0), -1);
        sameAnswers("after items without room", Something.told(refusing, 2, 6), Something.told(full, 2, 6));
    }

    private static void aDivisionByZeroChangesNothing() {
        LotRules x = Something.ofEach();
        check.same("over(0, 0)", x.over(0, 0), 4);
        check.shareThrows(x, 3, 2);
        check.same("over(0, 4)", x.over(0, 4), 0);
        sameAnswers("after a share by 0", Something.told(x, PERIODS, ITEMS), untouched);
    }

    private static void objectsAreApart() {
        LotRules x = Something.ofEach();
        LotRules other = new LotRules(12);
        Something.told(Something.ofEach(), PERIODS, ITEMS);
        check.same("item() of another object", other.item(), 0);
        check.same("make of another object", other.make(0, 1, 5000), 0);
        check.same("stands of another object", other.stands(12), 0);
        sameAnswers("beside other objects", Something.told(x, PERIODS, ITEMS), untouched);
    }
}
