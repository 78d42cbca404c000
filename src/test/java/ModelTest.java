import java.util.Random;

/** All promises: long runs of calls, each answer compared with that of the model; no call may throw but share. */
public final class ModelTest {
    private static final int RUNS = 400;
    private static final int CALLS = 512;
    private static final int[] MOST = {10000, 100, 1000, 12, 1000, 20, 200, 3};
    private static final int[] WILD = {Integer.MIN_VALUE, Integer.MIN_VALUE + 1, -100, -2, -1, 14, 31, 32, 64, 5001,
        10001, Integer.MAX_VALUE - 1, Integer.MAX_VALUE};

    private static final Check check = new Check();

    private final Random random;
    private final int scale;
    private final LotRules x;
    private final Model model;

    private ModelTest(int seed) {
        random = new Random(seed);
        int[] scales = {2, 6, 40, 10000};
        scale = scales[seed % scales.length];
        int periods = seed % 3 == 0 ? random.nextInt(18) - 3 : 3 + random.nextInt(10);
        x = new LotRules(periods);
        model = new Model(periods);
    }

    public static void main(String[] args) {
        for (int seed = 0; seed < RUNS; seed++) {
            new ModelTest(seed).run(seed);
        }
        check.end("ModelTest");
    }

    private void run(int seed) {
        int items = random.nextInt(7);
        for (int i = 0; i < items; i++) {
            compare(seed, 0, 0, 0, 0);
        }
        int changing = CALLS / 3;
        for (int call = items; call < CALLS; call++) {
            // Changes mostly go ahead, so that there is something to tell later.
            boolean change = random.nextInt(10) < (call < changing ? 9 : 3);
            int which = change ? changeIndex() : 7 + random.nextInt(13);
            int[] a = arguments(which);
            compare(seed, which, a[0], a[1], a[2]);
        }
    }

    private int changeIndex() {
        int[] which = {1, 1, 1, 2, 2, 2, 2, 3, 4, 4, 4, 4, 5, 6};
        return random.nextInt(60) == 0 ? 0 : which[random.nextInt(which.length)];
    }

    private int[] arguments(int which) {
        int[] a = {anItem(), aPeriod(), 0};
        switch (which) {
            case 1:
                a[1] = random.nextInt(8);
                a[2] = aValue(MOST[a[1]]);
                break;
            case 2:
                a[2] = aValue(1000);
                break;
            case 3:
                a[1] = anItem();
                a[2] = aValue(9);
                break;
            case 4:
                a[2] = random.nextInt(3) == 0 ? 0 : aValue(5000);
                break;
            case 5:
                a = new int[] {aPeriod(), aValue(10000), 0};
                break;
            case 6:
                a[0] = random.nextInt(2);
                a[1] = aValue(a[0] == 0 ? 100 : 10000);
                break;
            case 11:
            case 12:
                a[0] = aPeriod();
                break;
            case 13:
            case 19:
                a = new int[] {random.nextInt(4), random.nextInt(4), 0};
                break;
            case 15:
                a = new int[] {random.nextInt(random.nextBoolean() ? 5 : 160), random.nextInt(4), 0};
                break;
            default:
        }
        if (random.nextInt(12) == 0) {
            a[random.nextInt(3)] = WILD[random.nextInt(WILD.length)];
        }
        return a;
    }

    private int anItem() {
        return random.nextInt(15) == 0 ? random.nextInt(9) - 1 : random.nextInt(6);
    }

    private int aPeriod() {
        return random.nextInt(15);
    }

    private int aValue(int most) {
        int kind = random.nextInt(20);
        if (kind == 0) {
            return most;
        }
        if (kind == 1) {
            return most + 1;
        }
        return random.nextInt(Math.min(most, scale) + 1);
    }

    private void compare(int seed, int which, int a, int b, int c) {
        String name = Calls.NAMES[which];
        String call = "run " + seed + ": " + name + "(" + a + ", " + b + ", " + c + ")";
        check.same(call, Calls.ask(x, name, a, b, c), due(which, a, b, c));
    }

    private long due(int which, int a, int b, int c) {
        switch (which) {
            case 0: return model.item();
            case 1: return model.set(a, b, c);
            case 2: return model.need(a, b, c);
            case 3: return model.part(a, b, c);
            case 4: return model.make(a, b, c);
            case 5: return model.capacity(a, b);
            case 6: return model.over(a, b);
            case 7: return model.gross(a, b);
            case 8: return model.stock(a, b);
            case 9: return model.spoilt(a, b);
            case 10: return model.isSetUp(a, b);
            case 11: return model.stands(a);
            case 12: return model.time(a);
            case 13: return model.price(a);
            case 14: return model.faults();
            case 15: return model.fault(a, b);
            case 16: return model.best(a);
            case 17: return model.lot(a, b);
            case 18: return model.from(a, b);
            default:
                try {
                    return model.share(a, b);
                } catch (ArithmeticException e) {
                    return Calls.THREW;
                }
        }
    }
}
