import java.util.Arrays;
import java.util.Set;

/** Calls by their names, for tests that go through all of them. */
final class Calls {
    static final String[] NAMES = {"item", "set", "need", "part", "make", "capacity", "over", "gross", "stock",
        "spoilt", "isSetUp", "stands", "time", "price", "faults", "fault", "best", "lot", "from", "share"};
    static final String[] QUESTIONS = Arrays.copyOfRange(NAMES, 7, NAMES.length);
    private static final Set<String> LONGS = Set.of("stock", "time", "price", "best", "from", "share");
    /** Stands for the exception of share; no call can answer it. */
    static final long THREW = Long.MIN_VALUE + 1;

    private Calls() {
    }

    /** Arguments that a call does not take are left aside. */
    static long ask(LotRules x, String name, int a, int b, int c) {
        switch (name) {
            case "item": return x.item();
            case "set": return x.set(a, b, c);
            case "need": return x.need(a, b, c);
            case "part": return x.part(a, b, c);
            case "make": return x.make(a, b, c);
            case "capacity": return x.capacity(a, b);
            case "over": return x.over(a, b);
            case "gross": return x.gross(a, b);
            case "stock": return x.stock(a, b);
            case "spoilt": return x.spoilt(a, b);
            case "isSetUp": return x.isSetUp(a, b);
            case "stands": return x.stands(a);
            case "time": return x.time(a);
            case "price": return x.price(a);
            case "faults": return x.faults();
            case "fault": return x.fault(a, b);
            case "best": return x.best(a);
            case "lot": return x.lot(a, b);
            case "from": return x.from(a, b);
            case "share": return share(x, a, b);
            default: throw new IllegalArgumentException("no call " + name);
        }
    }

    private static long share(LotRules x, int what, int by) {
        try {
            return x.share(what, by);
        } catch (ArithmeticException e) {
            return THREW;
        }
    }

    static boolean answersLong(String name) {
        return LONGS.contains(name);
    }
}
