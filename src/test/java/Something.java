import java.util.ArrayList;
import java.util.List;

/** An object with something of each kind on it, and all that an object can tell. */
final class Something extends Given {
    static final int PERIODS = 3;
    static final int ITEMS = 3;

    private Something() {
    }

    static LotRules ofEach() {
        LotRules x = withItems(PERIODS, ITEMS);
        int[][] numbers = {{100, 3, 20, 1, 9, 2, 5, 0}, {70, 2, 0, 2, 30, 1, 6, 1}, {11, 1, 4, 0, 0, 3, 7, 0}};
        setNumbers(x, numbers);
        needs(x, 0, 2, 12, 5);
        needs(x, 1, 1, 3, 4);
        needs(x, 2, 8, 0, 6);
        x.part(1, 0, 2);
        x.part(2, 1, 3);
        lots(x, 0, 0, 15, 3);
        lots(x, 1, 6, 2, 5);
        lots(x, 2, 40, 0, 3);
        capacities(x, 100, 20, 10);
        x.over(0, 4);
        x.over(1, 16);
        return x;
    }

    /** The same object told something else of each kind. */
    static void change(LotRules x) {
        int[][] numbers = {{40, 5, 6, 2, 4, 4, 9, 1}, {33, 1, 30, 0, 12, 2, 3, 0}, {90, 2, 0, 1, 25, 1, 11, 0}};
        setNumbers(x, numbers);
        needs(x, 0, 7, 1, 9);
        needs(x, 1, 0, 6, 2);
        needs(x, 2, 3, 3, 1);
        x.part(1, 0, 0);
        x.part(2, 1, 1);
        x.part(0, 2, 0);
        lots(x, 0, 5, 0, 8);
        lots(x, 1, 0, 9, 0);
        lots(x, 2, 0, 7, 2);
        capacities(x, 9, 9, 30);
        x.over(0, 7);
        x.over(1, 5);
    }

    private static void setNumbers(LotRules x, int[][] numbers) {
        for (int i = 0; i < numbers.length; i++) {
            for (int what = 0; what < MOST.length; what++) {
                x.set(i, what, numbers[i][what]);
            }
        }
    }

    private static void capacities(LotRules x, int... row) {
        for (int p = 1; p <= row.length; p++) {
            x.capacity(p, row[p - 1]);
        }
    }

    static String called(String name, int a, int b, int c) {
        return name + "(" + a + ", " + b + ", " + c + ")";
    }

    /** A call by its name and arguments. */
    static final class Question {
        private final String name;
        private final int a;
        private final int b;

        Question(String name, int a, int b) {
            this.name = name;
            this.a = a;
            this.b = b;
        }

        String askedOf(LotRules x) {
            return called(name, a, b, 0) + " = " + Calls.ask(x, name, a, b, 0);
        }
    }

    /** Each question that can be asked of an object which has so many faults, wrong ones at the edges too. */
    static List<Question> questions(int periods, int items, int faults) {
        List<Question> all = new ArrayList<>();
        for (int i = 0; i < items; i++) {
            all.add(new Question("best", i, 0));
            for (int p = 0; p <= periods + 1; p++) {
                for (String name : new String[] {"gross", "stock", "spoilt", "isSetUp", "lot", "from"}) {
                    all.add(new Question(name, i, p));
                }
            }
        }
        for (int p = 0; p <= periods; p++) {
            all.add(new Question("stands", p, 0));
            all.add(new Question("time", p, 0));
        }
        for (int what = 0; what <= 3; what++) {
            all.add(new Question("price", what, 0));
            all.add(new Question("share", what, 3));
            all.add(new Question("share", 0, what));
        }
        all.add(new Question("faults", 0, 0));
        for (int k = 0; k <= faults; k++) {
            for (int what = 0; what <= 3; what++) {
                all.add(new Question("fault", k, what));
            }
        }
        return all;
    }

    /** All that is told of an object, and then, by setting all to 0, all that it was told. */
    static List<String> told(LotRules x, int periods, int items) {
        List<String> all = new ArrayList<>();
        for (Question q : questions(periods, items, x.faults())) {
            all.add(q.askedOf(x));
        }
        setAllToZero(all, x, periods, items);
        return all;
    }

    private static void setAllToZero(List<String> all, LotRules x, int periods, int items) {
        for (int i = 0; i < items; i++) {
            for (int what = 0; what < MOST.length; what++) {
                tell(all, x, "set", i, what, 0);
            }
            for (int of = 0; of < items; of++) {
                tell(all, x, "part", i, of, 0);
            }
            for (int p = 1; p <= periods; p++) {
                tell(all, x, "need", i, p, 0);
                tell(all, x, "make", i, p, 0);
            }
        }
        for (int p = 1; p <= periods; p++) {
            tell(all, x, "capacity", p, 0, 0);
        }
        tell(all, x, "over", 0, 0, 0);
        tell(all, x, "over", 1, 0, 0);
        tell(all, x, "item", 0, 0, 0);
    }

    private static void tell(List<String> all, LotRules x, String name, int a, int b, int c) {
        all.add(called(name, a, b, c) + " = " + Calls.ask(x, name, a, b, c));
    }
}
