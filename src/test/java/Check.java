/** Counts answers, and tells each that is not the one that is due. */
final class Check {
    private int asked = 0;
    private int wrong = 0;

    void same(String call, long got, long due) {
        asked++;
        if (got != due) {
            wrong++;
            System.out.println(call + " answered " + got + ", due is " + due);
        }
    }

    void holds(String what, boolean held) {
        asked++;
        if (!held) {
            wrong++;
            System.out.println("does not hold: " + what);
        }
    }

    /** Answers by period, from period 1 on, in one row. */
    void row(String call, long[] got, long... due) {
        same(call + ": length", got.length, due.length);
        for (int i = 0; i < Math.min(got.length, due.length); i++) {
            same(call + " at place " + i, got[i], due[i]);
        }
    }

    void shareThrows(LotRules x, int what, int by) {
        boolean thrown = false;
        boolean byTheMachine = false;
        try {
            x.share(what, by);
        } catch (ArithmeticException e) {
            thrown = true;
            byTheMachine = "/ by zero".equals(e.getMessage());
        }
        String call = "share(" + what + ", " + by + ")";
        holds(call + " throws ArithmeticException", thrown);
        holds(call + " throws it by a throw statement, not by a division", !byTheMachine);
    }

    void end(String name) {
        System.out.println(name + ": " + (asked - wrong) + " answers as due, " + wrong + " not");
        if (wrong != 0) {
            System.exit(1);
        }
    }
}
