/** The three examples of the document. */
public final class ExamplesTest {
    private static final Check check = new Check("examples");

    public static void main(String[] args) {
        join();
        parkAndRemove();
        nextOfTwo();
        check.finish();
    }

    private static void join() {
        AdaptiveQueryExecutor x = new AdaptiveQueryExecutor();
        check.due("source(1)", x.source(1), 0);
        check.due("source(1)", x.source(1), 1);
        check.due("feed of 5:0.0=1.0", Check.feed(x, "5:0.0=1.0"), 9);
        check.due("operator()", x.operator(), 0);
        check.due("deliver(0, 0, 7, 0, 0)", x.deliver(0, 0, 7, 0, 0), 1);
        check.due("deliver(1, 0, 7, 0, 0)", x.deliver(1, 0, 7, 0, 0), 1);
        check.due("run(100)", x.run(100), 3);
        check.due("count(3)", x.count(3), 1);
        check.due("output(0, 1)", x.output(0, 1), 0);
        check.due("answer(2)", x.answer(2), 1);
    }

    private static void parkAndRemove() {
        AdaptiveQueryExecutor x = new AdaptiveQueryExecutor();
        check.due("source(1)", x.source(1), 0);
        check.due("deliver(0, 1, 5, 0, 0)", x.deliver(0, 1, 5, 0, 0), 1);
        check.due("deliver(0, 1, 6, 0, 0)", x.deliver(0, 1, 6, 0, 0), 0);
        check.due("of(0, 6)", x.of(0, 6), 1);
        check.due("step(2)", x.step(2), 1);
        check.due("feed of 2:0.0<5", Check.feed(x, "2:0.0<5"), 7);
        check.due("operator()", x.operator(), 0);
        check.due("step(1)", x.step(1), 1);
        check.due("where(0)", x.where(0), 10);
        check.due("remove(0)", x.remove(0), 1);
        check.due("step(1)", x.step(1), 1);
        check.due("where(0)", x.where(0), 1);
    }

    private static void nextOfTwo() {
        AdaptiveQueryExecutor x = new AdaptiveQueryExecutor();
        check.due("source(1)", x.source(1), 0);
        check.due("source(1)", x.source(1), 1);
        check.due("deliver(0, 0, 1, 0, 0)", x.deliver(0, 0, 1, 0, 0), 1);
        check.due("deliver(1, 0, 1, 0, 0)", x.deliver(1, 0, 1, 0, 0), 1);
        check.due("next()", x.next(), 21);
        check.due("step(2)", x.step(2), 2);
        check.due("next()", x.next(), 40);
        check.due("count(10)", x.count(10), 3);
    }
}
