import java.util.List;

/** No answer rests on what was asked before: each question is asked first, of a new object and right behind changes. */
public final class OrderTest extends Given {
    private static final Check check = new Check();

    public static void main(String[] args) {
        eachQuestionFirst(false);
        eachQuestionFirst(true);
        eachQuestionRightBehindChanges();
        check.end("OrderTest");
    }

    private static LotRules made(boolean changed) {
        LotRules x = Something.ofEach();
        if (changed) {
            Something.change(x);
        }
        return x;
    }

    private static void eachQuestionFirst(boolean changed) {
        LotRules inOrder = made(changed);
        for (Something.Question q : questionsOf(inOrder)) {
            same(q.askedOf(made(changed)), q.askedOf(inOrder));
        }
    }

    private static void eachQuestionRightBehindChanges() {
        LotRules inOrder = made(true);
        for (Something.Question q : questionsOf(inOrder)) {
            LotRules x = made(false);
            for (Something.Question before : questionsOf(x)) {
                before.askedOf(x);
            }
            Something.change(x);
            same(q.askedOf(x), q.askedOf(inOrder));
        }
    }

    private static List<Something.Question> questionsOf(LotRules x) {
        return Something.questions(Something.PERIODS, Something.ITEMS, x.faults());
    }

    private static void same(String got, String due) {
        check.holds(got + ", due is " + due, got.equals(due));
    }
}
