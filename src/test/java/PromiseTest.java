/** For each promise: ordinary inputs, the edges that the document names, and wrong inputs. */
public final class PromiseTest {
    private static final int NONE = -1;
    private static final int BAD = -2;
    private static final int STATE = -3;
    private static final int FULL = -4;
    private static final Check check = new Check("promises");

    public static void main(String[] args) {
        newObject();
        source();
        window();
        deliver();
        drop();
        feed();
        operator();
        remove();
        policy();
        discipline();
        step();
        run();
        next();
        pending();
        told();
        of();
        value();
        output();
        where();
        answer();
        rank();
        would();
        best();
        age();
        event();
        image();
        undo();
        count();
        check.finish();
    }

    private static void due(String call, long got, long want) {
        check.due(call, got, want);
    }

    // ---- promise 1

    private static void newObject() {
        AdaptiveQueryExecutor x = new AdaptiveQueryExecutor();
        for (int what = 0; what < 12; what++) {
            due("1: count(" + what + ")", x.count(what), 0);
        }
        due("1: NONE", AdaptiveQueryExecutor.NONE, -1);
        due("1: BAD", AdaptiveQueryExecutor.BAD, -2);
        due("1: STATE", AdaptiveQueryExecutor.STATE, -3);
        due("1: FULL", AdaptiveQueryExecutor.FULL, -4);
        due("1: NO", AdaptiveQueryExecutor.NO, Long.MIN_VALUE);
        AdaptiveQueryExecutor other = new AdaptiveQueryExecutor();
        x.source(1);
        due("1: objects are apart", other.count(0), 0);
    }

    // ---- promise 2

    private static void source() {
        AdaptiveQueryExecutor x = new AdaptiveQueryExecutor();
        due("2: source(0)", x.source(0), BAD);
        due("2: source(4)", x.source(4), BAD);
        due("2: source(min)", x.source(Integer.MIN_VALUE), BAD);
        due("2: source(1)", x.source(1), 0);
        due("2: source(3)", x.source(3), 1);
        due("2: width 0", x.of(0, 0), 1);
        due("2: width 1", x.of(1, 0), 3);
        due("2: window", x.of(1, 3), 8);
        x.deliver(0, 0, 0, 0, 0);
        due("2: source with rows", x.source(1), STATE);
        due("2: source with rows, bad width", x.source(4), BAD);
        due("2: count(0)", x.count(0), 2);

        AdaptiveQueryExecutor y = Check.with(1, 2, 3);
        due("2: a fourth source", y.source(1), FULL);
        due("2: a fourth source, bad width", y.source(0), BAD);
        y.deliver(2, 0, 0, 0, 0);
        due("2: a fourth source with rows", y.source(1), FULL);

        AdaptiveQueryExecutor z = Check.with(1);
        Check.add(z, "1:0.0<5");
        due("2: source behind an operator", z.source(2), 1);
        z.image();
        z.deliver(0, 0, 0, 0, 0);
        z.undo();
        due("2: source when the row is undone", z.source(2), 2);
    }

    // ---- promise 3

    private static void window() {
        AdaptiveQueryExecutor x = Check.with(1, 1);
        due("3: no source 2", x.window(2, 1), NONE);
        due("3: no source -1", x.window(-1, 0), NONE);
        due("3: n 0", x.window(0, 0), BAD);
        due("3: n 9", x.window(0, 9), BAD);
        due("3: n 8", x.window(0, 8), 8);
        for (int key = 0; key < 5; key++) {
            x.deliver(0, key, key, 0, 0);
        }
        x.deliver(1, 0, 0, 0, 0);
        x.drop(0, 1);
        due("3: to 2", x.window(0, 2), 8);
        due("3: live", x.of(0, 2), 2);
        due("3: row 2 is dropped", x.value(0, 2, 12), 0);
        due("3: row 3 is live", x.value(0, 3, 12), 1);
        due("3: the other source", x.of(1, 2), 1);
        due("3: the queue", x.count(2), 3);
        due("3: an event", x.event(0), 200);
        due("3: three drops", x.count(11), 3);
        due("3: back to 8", x.window(0, 8), 2);
        due("3: what is dropped stays dropped", x.of(0, 2), 2);
        due("3: the window", x.of(0, 3), 8);
    }

    // ---- promise 4

    private static void deliver() {
        AdaptiveQueryExecutor x = Check.with(1, 2, 3);
        due("4: no source", x.deliver(3, 0, 0, 0, 0), NONE);
        due("4: no source, bad key", x.deliver(-1, -1, 0, 0, 0), NONE);
        due("4: key -1", x.deliver(0, -1, 0, 0, 0), BAD);
        due("4: key 64", x.deliver(0, 64, 0, 0, 0), BAD);
        due("4: a 1000", x.deliver(0, 0, 1000, 0, 0), BAD);
        due("4: a -1000", x.deliver(0, 0, -1000, 0, 0), BAD);
        due("4: b 1000", x.deliver(1, 0, 0, 1000, 0), BAD);
        due("4: c -1000", x.deliver(2, 0, 0, 0, -1000), BAD);
        due("4: nothing came of it", x.count(8), 0);
        due("4: key 63, free b and c", x.deliver(0, 63, 999, 1000, Integer.MIN_VALUE), 1);
        due("4: free c", x.deliver(1, 0, -999, 999, 5000), 1);
        due("4: all values", x.deliver(2, 0, 1, 2, -999), 1);
        due("4: value", x.value(0, 0, 0), 999);
        due("4: value b", x.value(1, 0, 1), 999);
        due("4: value c", x.value(2, 0, 2), -999);
        due("4: arrival", x.value(2, 0, 11), 3);
        due("4: duplicate", x.deliver(0, 63, 1, 0, 0), 0);
        due("4: its event", x.event(0), 100);
        due("4: it is counted", x.of(0, 6), 1);
        due("4: the value stays", x.value(0, 0, 0), 999);
        due("4: the rows stay", x.count(8), 3);
        due("4: the queue stays", x.count(2), 3);
        due("4: duplicate with a bad value", x.deliver(0, 63, 1000, 0, 0), BAD);
        due("4: no duplicate at another source", x.deliver(1, 63, 1, 1, 0), 1);
        deliverToTheFull();
    }

    private static void deliverToTheFull() {
        AdaptiveQueryExecutor x = Check.with(1, 1);
        for (int key = 0; key < 16; key++) {
            due("4: row " + key, x.deliver(0, key, key, 0, 0), 1);
        }
        due("4: a 17th row", x.deliver(0, 16, 0, 0, 0), FULL);
        due("4: a 17th row, bad value", x.deliver(0, 16, 1000, 0, 0), BAD);
        due("4: a duplicate of a dropped row", x.deliver(0, 0, 0, 0, 0), 0);
        due("4: live", x.of(0, 2), 8);
        due("4: row 7 is dropped", x.value(0, 7, 12), 0);
        due("4: row 8 is live", x.value(0, 8, 12), 1);
        due("4: the queue", x.count(2), 8);
        due("4: its first", x.pending(0, 10), 8);
        due("4: drops are told", x.event(1), 200);
        due("4: the other source takes rows", x.deliver(1, 0, 0, 0, 0), 1);
    }

    // ---- promise 5

    private static void drop() {
        AdaptiveQueryExecutor x = Check.with(1, 1);
        for (int key = 0; key < 3; key++) {
            x.deliver(0, key, key, 0, 0);
            x.deliver(1, key, key, 0, 0);
        }
        x.run(9999);
        due("5: outputs", x.count(3), 9);
        due("5: no source", x.drop(2, 0), NONE);
        due("5: no row", x.drop(0, 3), NONE);
        due("5: row -1", x.drop(0, -1), NONE);
        due("5: drop", x.drop(0, 1), 3);
        due("5: outputs then", x.count(3), 6);
        due("5: an event", x.event(0), 200);
        due("5: again", x.drop(0, 1), STATE);
        due("5: still", x.count(3), 6);
        due("5: a row of source 1", x.drop(1, 2), 2);
        due("5: its event", x.event(0), 201);
        due("5: the first output", x.output(0, 0), 0);
        due("5: the last output", x.output(3, 0), 2);
        dropFromLedgers();
    }

    private static void dropFromLedgers() {
        AdaptiveQueryExecutor x = Check.with(1, 1);
        Check.add(x, "1:0.0=1.0");
        Check.add(x, "1:1.0>0");
        x.deliver(0, 0, 5, 0, 0);
        x.deliver(0, 1, 6, 0, 0);
        x.deliver(1, 0, 5, 0, 0);
        x.deliver(1, 1, 0, 0, 0);
        x.run(9999);
        due("5: probes", x.told(0, 6), 3);
        due("5: parked", x.told(1, 5), 1);
        due("5: a parked row", x.drop(1, 1), 0);
        due("5: parked then", x.told(1, 5), 0);
        due("5: a row of a probe", x.drop(0, 1), 0);
        due("5: probes then", x.told(0, 6), 2);
        x.remove(0);
        due("5: repeated probes", x.count(2), 2);
        due("5: the row of both the output and a probe", x.drop(1, 0), 1);
        due("5: the repeated probe is gone", x.count(2), 1);
        due("5: the other one is there", x.pending(0, 0), 1);
    }

    // ---- promise 6

    private static void feed() {
        AdaptiveQueryExecutor x = new AdaptiveQueryExecutor();
        due("6: feed(-1)", x.feed(-1), BAD);
        due("6: feed(128)", x.feed(128), BAD);
        due("6: feed(0)", x.feed(0), 1);
        due("6: feed(127)", x.feed(127), 2);
        for (int length = 3; length <= 40; length++) {
            due("6: byte " + length, x.feed('1'), length);
        }
        due("6: a 41st byte", x.feed('1'), FULL);
        due("6: a bad 41st byte", x.feed(128), BAD);
        due("6: the length", x.count(4), 40);
        due("6: operator()", x.operator(), -10);
        due("6: the tape is empty", x.feed('1'), 1);
    }

    // ---- promise 7

    private static void text(AdaptiveQueryExecutor x, String text, int want) {
        due("7: " + text, Check.add(x, text), want);
        due("7: the tape behind " + text, x.count(4), 0);
    }

    private static void operator() {
        goodTexts();
        badCosts();
        badReferences();
        badNumbers();
        manyOperators();
        outputsGoBack();
    }

    private static void goodTexts() {
        String[] texts = {"1:0.0<5", "99:0.1=-999", "10:1.2>999", "9:0.0%99=98", "1:0.0%1=0", "1:2.0+2.0<-1",
            "1:1.0+1.2<0", "1:0.0=1.2", "1:0.0~2.0,0", "1:2.0~0.1,99", "1:1.1<0.0", "1:0.0=1"};
        int[] kinds = {0, 0, 0, 1, 1, 2, 2, 3, 4, 4, 5, 0};
        int[] costs = {1, 99, 10, 9, 1, 1, 1, 1, 1, 1, 1, 1};
        int[] sources = {1, 1, 2, 1, 1, 4, 2, 3, 5, 5, 3, 1};
        AdaptiveQueryExecutor x = Check.with(2, 3, 1);
        for (int k = 0; k < texts.length; k++) {
            text(x, texts[k], k);
            due("7: kind of " + texts[k], x.told(k, 0), kinds[k]);
            due("7: cost of " + texts[k], x.told(k, 1), costs[k]);
            due("7: active " + texts[k], x.told(k, 2), 1);
            due("7: sources of " + texts[k], x.told(k, 7), sources[k]);
            due("7: event of " + texts[k], x.event(0), 300 + k);
        }
        for (int i = 0; i < 40; i++) {
            x.feed('x');
        }
        due("7: a 13th operator", x.operator(), FULL);
        due("7: the tape stays", x.count(4), 40);
    }

    private static void badCosts() {
        AdaptiveQueryExecutor x = Check.with(2, 3, 1);
        text(x, "", -10);
        text(x, "0:0.0<5", -10);
        text(x, ":0.0<5", -10);
        text(x, "-1:0.0<5", -10);
        text(x, "01:0.0<5", -10);
        text(x, " 1:0.0<5", -10);
        text(x, "1", -11);
        text(x, "1x", -11);
        text(x, "100:0.0<5", -12);
        text(x, "12", -12);
        text(x, "12:", -13);
        due("7: no operator came of it", x.count(1), 0);
        due("7: no event came of it", x.event(0), NONE);
    }

    private static void badReferences() {
        AdaptiveQueryExecutor x = Check.with(2, 3);
        text(x, "1:2.0<5", -12);
        text(x, "1:x.0<5", -12);
        text(x, "1:0", -13);
        text(x, "1:00<5", -13);
        text(x, "1:0.2<5", -14);
        text(x, "1:0.", -14);
        text(x, "1:0.0", -15);
        text(x, "1:0.0!5", -15);
        text(x, "1:0.00<5", -15);
        text(x, "1:0.0+1.0<5", -16);
        text(x, "1:0.0+0.2<5", -18);
        text(x, "1:0.0+0.1=5", -19);
        text(x, "1:0.0~0.1,5", -16);
        text(x, "1:0.0~2.0,5", -16);
        text(x, "1:0.0~1.3,5", -18);
        text(x, "1:0.0~1.2", -19);
        text(x, "1:0.0~1.2,", -20);
        text(x, "1:0.0=0.1", -17);
        text(x, "1:0.0=2.1", -17);
        text(x, "1:0.0<1.3", -18);
        text(x, "1:0.0<1.", -18);
        text(x, "1:0.0=1.00", -19);
        text(x, "1:0.0>1.0", -17);
        AdaptiveQueryExecutor alone = Check.with(1);
        text(alone, "1:0.0~1.0,5", -16);
        text(alone, "1:0.0=1.0", -17);
        AdaptiveQueryExecutor empty = new AdaptiveQueryExecutor();
        text(empty, "1:0.0<5", -12);
        text(empty, "1:", -12);
    }

    private static void badNumbers() {
        AdaptiveQueryExecutor x = Check.with(2, 3);
        text(x, "1:0.0<", -16);
        text(x, "1:0.0<-", -17);
        text(x, "1:0.0<-0", -17);
        text(x, "1:0.0<--1", -17);
        text(x, "1:0.0<-x", -17);
        text(x, "1:0.0<00", -17);
        text(x, "1:0.0<1000", -19);
        text(x, "1:0.0=-1000", -20);
        text(x, "1:0.0>5 ", -17);
        text(x, "1:0.0=12.0", -18);
        text(x, "1:0.0=-1.0", -18);
        text(x, "1:0.0%0=0", -16);
        text(x, "1:0.0%-1=0", -16);
        text(x, "1:0.0%100=0", -18);
        text(x, "1:0.0%5", -17);
        text(x, "1:0.0%5<1", -17);
        text(x, "1:0.0%5=", -18);
        text(x, "1:0.0%5=5", -18);
        text(x, "1:0.0%5=-1", -18);
        text(x, "1:0.0%5=10", -19);
        text(x, "1:0.0%1=1", -18);
        text(x, "1:0.0%10=9", 0);
        text(x, "1:0.0%10=10", -20);
        text(x, "1:0.0%13=00", -20);
        text(x, "1:0.0%13=13", -20);
        text(x, "1:0.0%99=980", -21);
        text(x, "1:0.0~1.0,-1", -20);
        text(x, "1:0.0~1.0,00", -21);
        text(x, "1:0.0~1.0,100", -22);
        text(x, "1:0.0~1.0,99", 1);
        text(x, "1:0.0+0.0<1.0", -21);
    }

    private static void manyOperators() {
        AdaptiveQueryExecutor x = Check.with(1);
        for (int k = 0; k < 12; k++) {
            due("7: operator " + k, Check.add(x, "1:0.0<5"), k);
            due("7: remove " + k, x.remove(k), 0);
        }
        due("7: removed ones count", Check.add(x, "1:0.0<5"), FULL);
        due("7: the text stays", x.count(4), 7);
    }

    private static void outputsGoBack() {
        AdaptiveQueryExecutor x = Check.with(1);
        Check.add(x, "1:0.0<9");
        x.deliver(0, 0, 1, 0, 0);
        x.deliver(0, 1, 2, 0, 0);
        x.run(9999);
        x.deliver(0, 2, 3, 0, 0);
        due("7: outputs", x.count(3), 2);
        Check.add(x, "1:0.0<?");
        due("7: a wrong text moves nothing", x.count(3), 2);
        Check.add(x, "1:0.0>1");
        due("7: no outputs", x.count(3), 0);
        due("7: the queue", x.count(2), 3);
        due("7: what was there stays first", x.pending(0, 10), 2);
        due("7: then the first output", x.pending(1, 10), 0);
        due("7: then the second output", x.pending(2, 10), 1);
        due("7: it has passed operator 0", x.pending(1, 2), 1);
    }

    // ---- promise 8

    private static void remove() {
        AdaptiveQueryExecutor x = Check.with(1, 1);
        due("8: no operator", x.remove(0), NONE);
        due("8: operator -1", x.remove(-1), NONE);
        Check.add(x, "2:0.0=1.0");
        Check.add(x, "3:1.0>2");
        x.deliver(1, 0, 3, 0, 0);
        x.deliver(1, 1, 4, 0, 0);
        x.deliver(1, 2, 0, 0, 0);
        x.deliver(1, 3, 1, 0, 0);
        x.deliver(0, 0, 4, 0, 0);
        x.run(9999);
        due("8: outputs", x.count(3), 1);
        due("8: no operator 2", x.remove(2), NONE);
        due("8: parked ones", x.remove(1), 2);
        due("8: its event", x.event(0), 401);
        due("8: in their order", x.pending(0, 11), 2);
        due("8: and the second", x.pending(1, 11), 3);
        due("8: no repeated probe", x.pending(0, 3), 0);
        due("8: again", x.remove(1), STATE);
        due("8: inactive", x.told(1, 2), 0);
        due("8: nothing parked", x.told(1, 5), 0);
        due("8: outputs stay", x.count(3), 1);
        due("8: probes", x.remove(0), 3);
        due("8: behind the others", x.pending(2, 3), 1);
        due("8: the row of source 0 has probed first", x.pending(2, 10), 0);
        due("8: it has passed nothing", x.pending(2, 2), 0);
        due("8: row 1 of source 1 has probed last", x.pending(4, 11), 1);
        due("8: it has passed operator 1", x.pending(4, 2), 2);
        due("8: none recorded", x.told(0, 6), 0);
        int before = x.count(10);
        // two probes without candidates, a repeated one that finds 3 rows, and two that find none
        due("8: to the end", x.run(9999), 1 + 1 + 4 + 1 + 1);
        due("8: work", x.count(10) - before, 8);
        due("8: all combinations", x.count(3), 4);
        due("8: no probe counted for repeated ones", x.of(1, 4), 1);
        due("8: nor matches", x.of(1, 5), 1);
        due("8: the answer", x.answer(2), 1);
        parkedBeforeProbes();
    }

    private static void parkedBeforeProbes() {
        AdaptiveQueryExecutor x = Check.with(1, 1);
        x.deliver(0, 0, 1, 0, 0);
        x.deliver(1, 0, 2, 0, 0);
        x.run(9999);
        Check.add(x, "2:0.0=1.0");
        x.deliver(1, 1, 1, 0, 0);
        x.discipline(1);
        x.step(1);
        due("8: a probe", x.told(0, 6), 1);
        x.discipline(0);
        x.step(1);
        due("8: and a parked partial", x.told(0, 5), 1);
        due("8: both", x.remove(0), 2);
        due("8: what was there is first", x.pending(0, 2), 1);
        due("8: the parked one is before the probe", x.pending(1, 3), 0);
        due("8: the probe is last", x.pending(2, 3), 1);
    }

    // ---- promise 9

    private static void policy() {
        AdaptiveQueryExecutor x = Check.with(1);
        due("9: policy(-1)", x.policy(-1), BAD);
        due("9: policy(5)", x.policy(5), BAD);
        due("9: policy(4)", x.policy(4), 0);
        due("9: policy(1)", x.policy(1), 4);
        due("9: count(5)", x.count(5), 1);
        Check.add(x, "7:0.0<90");
        Check.add(x, "3:0.0<80");
        Check.add(x, "3:0.0<70");
        Check.add(x, "9:0.0<10");
        x.deliver(0, 0, 50, 0, 0);
        chosen(x, 0, 1, 1, 3, 0);
        x.policy(3);
        x.step(1);
        due("9: parked at the highest", x.event(0), 503);
        x.deliver(0, 1, 50, 0, 0);
        // ranks 7/1, 3/1, 3/1, 9*2/2 = 9/1
        chosen(x, 0, 1, 1, 3, 0);
        x.policy(0);
        x.step(1);
        due("9: the passed one is not ready", x.next(), 1);
        x.policy(1);
        x.step(1);
        // operators 2 and 3 are left: cost 3 and 9, ranks 3/1 and 9*2/2
        chosen(x, 2, 2, 2, 3, 2);
        x.deliver(0, 2, 5, 0, 0);
        x.discipline(1);
        // evaluated 1, 1, 0, 1 and passed 1, 1, 0, 0: ranks 14/1, 6/1, 3/1, 9/1
        chosen(x, 0, 1, 2, 3, 2);
        rankDecides();
    }

    private static void chosen(AdaptiveQueryExecutor x, int... want) {
        int before = x.count(5);
        for (int p = 0; p < want.length; p++) {
            x.policy(p);
            due("9: policy " + p, x.next(), want[p]);
        }
        x.policy(before);
    }

    /** Cost 5 that never passes has rank 5; cost 4 that always passes has rank 4 * (n + 1). */
    private static void rankDecides() {
        AdaptiveQueryExecutor x = Check.with(1);
        Check.add(x, "4:0.0<900");
        Check.add(x, "5:0.0<-900");
        x.policy(2);
        x.deliver(0, 0, 0, 0, 0);
        due("9: rank 4 before 5", x.next(), 0);
        x.step(2);
        x.deliver(0, 1, 0, 0, 0);
        due("9: rank 5 before 8", x.next(), 1);
        x.policy(4);
        due("9: a tie of counters", x.next(), 0);
    }

    // ---- promise 10

    private static void discipline() {
        AdaptiveQueryExecutor x = Check.with(1);
        due("10: discipline(2)", x.discipline(2), BAD);
        due("10: discipline(-1)", x.discipline(-1), BAD);
        due("10: discipline(1)", x.discipline(1), 0);
        due("10: count(6)", x.count(6), 1);
        x.deliver(0, 0, 0, 0, 0);
        x.deliver(0, 1, 0, 0, 0);
        x.deliver(0, 2, 0, 0, 0);
        x.step(1);
        due("10: the last one is taken", x.output(0, 0), 2);
        due("10: discipline(0)", x.discipline(0), 1);
        x.step(1);
        due("10: the first one is taken", x.output(1, 0), 0);
        due("10: the middle one is left", x.pending(0, 10), 1);
    }

    // ---- promise 11

    private static void step() {
        AdaptiveQueryExecutor x = Check.with(1, 1, 1);
        due("11: step(0)", x.step(0), BAD);
        due("11: step(101)", x.step(101), BAD);
        due("11: an empty queue", x.step(100), 0);
        due("11: no steps", x.count(9), 0);
        for (int key = 0; key < 8; key++) {
            x.deliver(0, key, key, 0, 0);
            x.deliver(1, key, key, 0, 0);
            x.deliver(2, key, key, 0, 0);
        }
        due("11: step(1)", x.step(1), 1);
        due("11: step(100)", x.step(100), 100);
        due("11: steps", x.count(9), 101);
        int rest = 0;
        for (int i = 0; i < 20; i++) {
            rest += x.step(100);
        }
        // 24 single rows, 512 triples, and a pair for each older row that the probes found
        due("11: to the end", x.count(3), 512);
        due("11: all steps", x.count(9), 101 + rest);
        due("11: the answer", x.answer(2), 1);
        stepThroughProbes();
        guides();
        guidesDecide();
    }

    private static void stepThroughProbes() {
        AdaptiveQueryExecutor x = Check.with(1, 1, 1);
        x.deliver(0, 0, 1, 0, 0);
        x.deliver(0, 1, 2, 0, 0);
        x.deliver(1, 0, 1, 0, 0);
        x.deliver(2, 0, 1, 0, 0);
        x.deliver(1, 1, 1, 0, 0);
        due("11: source 1 has no older row: the lowest of 1 and 2", x.next(), 21);
        x.step(1);
        due("11: given up", x.count(2), 4);
        due("11: work 1", x.count(10), 1);
        x.step(1);
        due("11: source 2 is empty", x.next(), 22);
        x.step(1);
        due("11: source 1 has fewer rows than 0", x.next(), 21);
        x.step(1);
        due("11: work 1 and 1 candidate", x.count(10), 5);
        due("11: probes of source 1", x.of(1, 4), 3);
        due("11: matches of source 1", x.of(1, 5), 1);
        due("11: source 2 has fewer rows than 0", x.next(), 22);
        due("11: an event", x.event(0), 601);
        x.step(1);
        due("11: a pair", x.pending(0, 0), 6);
        due("11: its origin", x.pending(0, 1), 4);
        x.step(1);
        due("11: two candidates", x.count(2), 3);
        due("11: in ascending order", x.pending(1, 10), 0);
        due("11: and the second", x.pending(2, 10), 1);
        due("11: origin stays", x.pending(2, 1), 4);
        x.step(100);
        due("11: outputs", x.count(3), 4);
    }

    private static void guides() {
        AdaptiveQueryExecutor x = Check.with(2, 2);
        Check.add(x, "1:0.0<1.0");
        Check.add(x, "1:0.1=1.1");
        Check.add(x, "1:0.0=1.0");
        x.deliver(0, 0, 4, 7, 0);
        x.deliver(0, 1, 5, 7, 0);
        x.deliver(0, 2, 5, 8, 0);
        x.deliver(1, 0, 5, 7, 0);
        x.step(3);
        x.step(1);
        due("11: the guide is the lowest equal operator", x.told(1, 6), 4);
        due("11: the other one records nothing", x.told(2, 6), 0);
        due("11: two candidates", x.count(2), 2);
        due("11: they passed the guide", x.pending(0, 2), 2);
        due("11: the guide is not evaluated", x.told(1, 3), 0);
        x.remove(1);
        due("11: four repeated probes", x.count(2), 6);
        x.discipline(1);
        x.step(1);
        due("11: an excluded row comes", x.pending(5, 10), 2);
        due("11: it has passed nothing", x.pending(5, 2), 0);
        due("11: its origin", x.pending(5, 1), 4);
        due("11: the event", x.event(0), 650);
    }

    /** Source 1 has more older rows than source 2, but its guide leaves fewer of them. */
    private static void guidesDecide() {
        AdaptiveQueryExecutor x = Check.with(1, 1, 1);
        Check.add(x, "1:1.0=2.0");
        Check.add(x, "1:0.0=1.0");
        for (int key = 0; key < 3; key++) {
            x.deliver(1, key, key, 0, 0);
        }
        x.deliver(2, 0, 2, 0, 0);
        x.deliver(2, 1, 1, 0, 0);
        x.run(9999);
        int matches = x.of(1, 5);
        x.deliver(0, 0, 2, 0, 0);
        due("11: the guide counts", x.next(), 21);
        x.step(1);
        due("11: one match", x.of(1, 5) - matches, 1);
        due("11: recorded at the guide, behind the three rows of source 1", x.told(1, 6), 4);
        due("11: the partial", x.pending(0, 11), 2);
        due("11: the guide is passed", x.pending(0, 2), 2);
        due("11: then source 2", x.next(), 22);
        x.step(1);
        due("11: the other guide is passed, too", x.pending(0, 2), 3);
        due("11: the row of source 2", x.pending(0, 12), 0);
        due("11: excluded by the second probe", x.where(201), 10);
        due("11: excluded by the first probe", x.where(100), 11);
        x.step(1);
        due("11: the output", x.where(200), 1);
    }

    // ---- promise 12

    private static void run() {
        AdaptiveQueryExecutor x = Check.with(1);
        due("12: run(0)", x.run(0), BAD);
        due("12: run(10000)", x.run(10000), BAD);
        due("12: an empty queue", x.run(9999), 0);
        Check.add(x, "7:0.0<5");
        for (int key = 0; key < 4; key++) {
            x.deliver(0, key, 3 + key, 0, 0);
        }
        due("12: more than the budget", x.run(1), 7);
        due("12: one step", x.count(9), 1);
        due("12: just the budget", x.run(14), 14);
        due("12: three steps", x.count(9), 3);
        due("12: the rest, outputs for nothing", x.run(8), 7);
        due("12: six steps", x.count(9), 6);
        due("12: outputs", x.count(3), 2);
        due("12: work", x.count(10), 28);
    }

    // ---- promise 13

    private static void next() {
        AdaptiveQueryExecutor x = Check.with(1, 1);
        due("13: an empty queue", x.next(), -5);
        Check.add(x, "1:1.0=0.0");
        Check.add(x, "1:1.0<5");
        x.deliver(0, 0, 1, 0, 0);
        x.deliver(1, 0, 2, 0, 0);
        due("13: a probe", x.next(), 21);
        x.discipline(1);
        due("13: an evaluation", x.next(), 1);
        x.step(1);
        due("13: then a probe", x.next(), 20);
        x.step(1);
        x.remove(0);
        due("13: a repeated probe", x.next(), 30);
        x.step(1);
        due("13: an output", x.next(), 40);
        due("13: steps stay", x.count(9), 3);
        AdaptiveQueryExecutor y = Check.with(1, 1);
        Check.add(y, "1:1.0=0.0");
        y.deliver(0, 0, 1, 0, 0);
        y.step(1);
        y.remove(0);
        due("13: a repeated probe of source 1", y.next(), 31);
    }

    // ---- promise 14

    private static void pending() {
        AdaptiveQueryExecutor x = Check.with(1, 1);
        due("14: no element", x.pending(0, 0), NONE);
        Check.add(x, "1:1.0<5");
        x.deliver(0, 0, 1, 0, 0);
        x.deliver(0, 1, 1, 0, 0);
        x.deliver(1, 0, 2, 0, 0);
        due("14: element -1", x.pending(-1, 0), NONE);
        due("14: element 3", x.pending(3, 0), NONE);
        due("14: what -1", x.pending(0, -1), NONE);
        due("14: what 4", x.pending(0, 4), NONE);
        due("14: what 9", x.pending(0, 9), NONE);
        due("14: what 12 with two sources", x.pending(0, 12), NONE);
        due("14: what 13", x.pending(0, 13), NONE);
        due("14: what max", x.pending(0, Integer.MAX_VALUE), NONE);
        due("14: what min", x.pending(0, Integer.MIN_VALUE), NONE);
        due("14: covered", x.pending(2, 0), 2);
        due("14: origin", x.pending(2, 1), 3);
        due("14: passed", x.pending(2, 2), 0);
        due("14: no repeated probe", x.pending(2, 3), 0);
        due("14: the row of source 0", x.pending(2, 10), -5);
        due("14: the row of source 1", x.pending(2, 11), 0);
        due("14: row 1 of source 0", x.pending(1, 10), 1);
        x.step(3);
        due("14: passed operator 0", x.pending(0, 2), 1);
        x.step(1);
        due("14: both covered", x.pending(1, 0), 3);
        due("14: the new row", x.pending(1, 10), 1);
        due("14: the passed ones are kept", x.pending(1, 2), 1);
    }

    // ---- promise 15

    private static void told() {
        AdaptiveQueryExecutor x = Check.with(2, 1);
        due("15: no operator", x.told(0, 0), NONE);
        Check.add(x, "42:0.1=1.0");
        Check.add(x, "7:0.0<5");
        for (int key = 0; key < 4; key++) {
            x.deliver(0, key, 2 + key, key, 0);
        }
        x.run(9999);
        int[] guide = {3, 42, 1, 0, 0, 0, 3, 3};
        int[] compare = {0, 7, 1, 4, 3, 1, 0, 1};
        for (int what = 0; what < 8; what++) {
            due("15: told(0, " + what + ")", x.told(0, what), guide[what]);
            due("15: told(1, " + what + ")", x.told(1, what), compare[what]);
        }
        due("15: what 8", x.told(0, 8), NONE);
        due("15: what -1", x.told(0, -1), NONE);
        due("15: operator -1", x.told(-1, 0), NONE);
        due("15: operator 2", x.told(2, 0), NONE);
        x.remove(1);
        due("15: removed", x.told(1, 2), 0);
        due("15: its counter", x.told(1, 3), 4);
    }

    // ---- promise 16

    private static void of() {
        AdaptiveQueryExecutor x = Check.with(2, 3);
        x.window(1, 2);
        x.deliver(1, 0, 0, 0, 0);
        x.deliver(1, 1, 0, 0, 0);
        x.deliver(1, 2, 0, 0, 0);
        x.deliver(1, 2, 0, 0, 0);
        x.deliver(1, 0, 0, 0, 0);
        x.deliver(0, 0, 0, 0, 0);
        x.run(9999);
        int[] first = {2, 1, 1, 8, 2, 0, 0};
        int[] second = {3, 3, 2, 2, 1, 2, 2};
        for (int what = 0; what < 7; what++) {
            due("16: of(0, " + what + ")", x.of(0, what), first[what]);
            due("16: of(1, " + what + ")", x.of(1, what), second[what]);
        }
        due("16: what 7", x.of(0, 7), NONE);
        due("16: what -1", x.of(0, -1), NONE);
        due("16: source 2", x.of(2, 0), NONE);
        due("16: source -1", x.of(-1, 0), NONE);
    }

    // ---- promise 17

    private static void value() {
        AdaptiveQueryExecutor x = Check.with(3, 1);
        x.deliver(1, 9, -7, 5, 5);
        x.deliver(0, 63, 1, -999, 999);
        due("17: value 0", x.value(0, 0, 0), 1);
        due("17: value 1", x.value(0, 0, 1), -999);
        due("17: value 2", x.value(0, 0, 2), 999);
        due("17: value 3", x.value(0, 0, 3), -1000);
        due("17: beyond the width", x.value(1, 0, 1), -1000);
        due("17: negative", x.value(1, 0, 0), -7);
        due("17: key", x.value(0, 0, 10), 63);
        due("17: arrival", x.value(0, 0, 11), 2);
        due("17: live", x.value(0, 0, 12), 1);
        due("17: what 13", x.value(0, 0, 13), -1000);
        due("17: what 9", x.value(0, 0, 9), -1000);
        due("17: what -1", x.value(0, 0, -1), -1000);
        due("17: row 1", x.value(0, 1, 0), -1000);
        due("17: row -1", x.value(0, -1, 0), -1000);
        due("17: source 2", x.value(2, 0, 0), -1000);
        due("17: source -1", x.value(-1, 0, 0), -1000);
        x.drop(0, 0);
        due("17: dropped", x.value(0, 0, 12), 0);
        due("17: its key stays", x.value(0, 0, 10), 63);
    }

    // ---- promise 18

    private static void output() {
        AdaptiveQueryExecutor x = Check.with(1, 1);
        due("18: no output", x.output(0, 0), NONE);
        x.deliver(0, 0, 0, 0, 0);
        x.deliver(0, 1, 0, 0, 0);
        x.deliver(1, 0, 0, 0, 0);
        x.run(9999);
        due("18: output 0, source 0", x.output(0, 0), 0);
        due("18: output 1, source 0", x.output(1, 0), 1);
        due("18: output 1, source 1", x.output(1, 1), 0);
        due("18: output 2", x.output(2, 0), NONE);
        due("18: output -1", x.output(-1, 0), NONE);
        due("18: source 2", x.output(0, 2), NONE);
        due("18: source -1", x.output(0, -1), NONE);
        x.drop(0, 0);
        due("18: the oldest one left", x.output(0, 0), 1);
    }

    // ---- promise 19

    private static void where() {
        AdaptiveQueryExecutor empty = new AdaptiveQueryExecutor();
        due("19: no sources", empty.where(0), NONE);
        AdaptiveQueryExecutor x = Check.with(1, 1);
        Check.add(x, "1:0.0=1.0");
        Check.add(x, "1:0.0>0");
        x.deliver(0, 0, 5, 0, 0);
        x.deliver(0, 1, 6, 0, 0);
        x.deliver(0, 2, 0, 0, 0);
        due("19: no row of source 1", x.where(0), NONE);
        x.deliver(1, 0, 5, 0, 0);
        due("19: code -1", x.where(-1), NONE);
        due("19: code -100", x.where(-100), NONE);
        due("19: too many digits", x.where(10000), NONE);
        due("19: row 3", x.where(300), NONE);
        due("19: row 99", x.where(99), NONE);
        due("19: min", x.where(Integer.MIN_VALUE), NONE);
        due("19: max", x.where(Integer.MAX_VALUE), NONE);
        due("19: from the queue", x.where(100), 2);
        x.run(9999);
        due("19: an output", x.where(0), 1);
        due("19: excluded by a probe", x.where(100), 10);
        due("19: excluded, though row 2 is parked with another origin", x.where(200), 10);
        x.deliver(0, 3, 0, 0, 0);
        x.run(9999);
        due("19: parked", x.where(300), 11);
        x.remove(0);
        due("19: from a repeated probe", x.where(200), 2);
        due("19: still an output", x.where(0), 1);
        x.run(9999);
        due("19: parked then", x.where(200), 11);
        x.drop(0, 2);
        due("19: dropped", x.where(200), NONE);
        whereWithRepeatedProbes();
        whereOfThree();
    }

    /** What the probe had found is not formed by the repeated probe. */
    private static void whereWithRepeatedProbes() {
        AdaptiveQueryExecutor x = Check.with(1, 1);
        Check.add(x, "1:0.0=1.0");
        x.deliver(0, 0, 5, 0, 0);
        x.deliver(1, 0, 5, 0, 0);
        x.run(9999);
        Check.add(x, "1:0.0>9");
        x.step(1);
        due("19: parked at 1", x.where(0), 11);
        x.remove(0);
        due("19: the repeated probes are there", x.count(2), 2);
        due("19: still parked at 1", x.where(0), 11);
    }

    private static void whereOfThree() {
        AdaptiveQueryExecutor x = Check.with(1, 1, 1);
        Check.add(x, "1:0.0~1.0,0");
        x.deliver(2, 0, 0, 0, 0);
        x.deliver(0, 0, 1, 0, 0);
        x.deliver(0, 1, 2, 0, 0);
        x.deliver(1, 0, 2, 0, 0);
        due("19: from the queue", x.where(10000), 2);
        x.run(9999);
        due("19: an output of three", x.where(10000), 1);
        due("19: a parked one", x.where(0), 10);
        due("19: no such row of source 2", x.where(1), NONE);
        due("19: no such row of source 1", x.where(100), NONE);
    }

    // ---- promise 20

    private static void answer() {
        AdaptiveQueryExecutor x = new AdaptiveQueryExecutor();
        due("20: no sources: number", x.answer(0), 0);
        due("20: no sources: least code", x.answer(1), -5);
        due("20: no sources: settled", x.answer(2), 1);
        due("20: what 3", x.answer(3), NONE);
        due("20: what -1", x.answer(-1), NONE);
        x.source(1);
        x.source(1);
        due("20: no rows", x.answer(0), 0);
        due("20: no rows: settled", x.answer(2), 1);
        Check.add(x, "1:0.0<1.0");
        x.deliver(0, 0, 9, 0, 0);
        x.deliver(0, 1, 1, 0, 0);
        x.deliver(1, 0, 1, 0, 0);
        x.deliver(1, 1, 2, 0, 0);
        x.deliver(1, 2, 3, 0, 0);
        due("20: number", x.answer(0), 2);
        due("20: least code", x.answer(1), 101);
        due("20: not settled", x.answer(2), 0);
        x.run(9999);
        due("20: settled", x.answer(2), 1);
        x.remove(0);
        due("20: without the operator", x.answer(0), 6);
        due("20: not settled again", x.answer(2), 0);
        x.run(9999);
        due("20: settled again", x.answer(2), 1);
        x.drop(1, 2);
        due("20: without a row", x.answer(0), 4);
        due("20: settled still", x.answer(2), 1);
        AdaptiveQueryExecutor y = Check.with(1);
        Check.add(y, "1:0.0<5");
        y.deliver(0, 0, 1, 0, 0);
        y.run(9999);
        y.deliver(0, 1, 9, 0, 0);
        due("20: all outputs, but the queue is not empty", y.answer(2), 0);
        y.step(1);
        due("20: now it is", y.answer(2), 1);
        allKinds();
    }

    private static void holds(String condition, int a, int b, int c, int want) {
        AdaptiveQueryExecutor x = Check.with(2, 1);
        Check.add(x, "1:" + condition);
        x.deliver(0, 0, a, b, 0);
        x.deliver(1, 0, c, 0, 0);
        due("20: " + condition + " for " + a + ", " + b + "; " + c, x.answer(0), want);
        x.run(9999);
        due("20: it is settled", x.answer(2), 1);
    }

    private static void allKinds() {
        holds("0.0<5", 4, 9, 9, 1);
        holds("0.0<5", 5, 0, 0, 0);
        holds("0.1=-5", 0, -5, 0, 1);
        holds("0.1=-5", -5, 5, 0, 0);
        holds("1.0>-5", 0, 0, -4, 1);
        holds("1.0>-5", 0, 0, -5, 0);
        holds("0.0%4=3", -1, 0, 0, 1);
        holds("0.0%4=3", 7, 0, 0, 1);
        holds("0.0%4=3", -3, 0, 0, 0);
        holds("0.0%4=0", -8, 0, 0, 1);
        holds("0.0%1=0", -999, 0, 0, 1);
        holds("0.0+0.1<7", 3, 3, 0, 1);
        holds("0.0+0.1<7", 3, 4, 0, 0);
        holds("0.1+0.1<7", 99, 3, 0, 1);
        holds("0.1+0.1<6", 99, 3, 0, 0);
        holds("0.1=1.0", 1, 6, 6, 1);
        holds("0.1=1.0", 6, 1, 6, 0);
        holds("0.0~1.0,3", 5, 0, 8, 1);
        holds("0.0~1.0,3", 8, 0, 5, 1);
        holds("0.0~1.0,3", 5, 0, 9, 0);
        holds("0.0~1.0,3", -999, 0, 999, 0);
        holds("1.0~0.1,0", 5, 9, 9, 1);
        holds("1.0<0.0", 5, 0, 4, 1);
        holds("1.0<0.0", 5, 0, 5, 0);
        holds("0.0<1.0", 5, 0, 6, 1);
        holds("0.0<1", 0, 0, -999, 1);
    }

    // ---- promise 21

    private static void rank() {
        AdaptiveQueryExecutor x = Check.with(1);
        due("21: no operator", x.rank(0, 0), AdaptiveQueryExecutor.NO);
        Check.add(x, "6:0.0<3");
        due("21: numerator", x.rank(0, 0), 6);
        due("21: denominator", x.rank(0, 1), 1);
        due("21: part 2", x.rank(0, 2), AdaptiveQueryExecutor.NO);
        due("21: part -1", x.rank(0, -1), AdaptiveQueryExecutor.NO);
        due("21: operator 1", x.rank(1, 0), AdaptiveQueryExecutor.NO);
        due("21: operator -1", x.rank(-1, 0), AdaptiveQueryExecutor.NO);
        for (int key = 0; key < 6; key++) {
            x.deliver(0, key, key, 0, 0);
        }
        x.run(9999);
        // 6 * 7 / (6 - 3 + 1) = 42 / 4
        due("21: numerator in lowest terms", x.rank(0, 0), 21);
        due("21: denominator in lowest terms", x.rank(0, 1), 2);
        x.remove(0);
        due("21: of a removed one", x.rank(0, 0), 21);
    }

    // ---- promise 22

    private static void would() {
        AdaptiveQueryExecutor x = Check.with(1, 1);
        due("22: what 3", x.would(0, 3), NONE);
        due("22: what -1, p 5", x.would(5, -1), NONE);
        due("22: p 5", x.would(5, 0), BAD);
        due("22: p -1", x.would(-1, 2), BAD);
        due("22: nothing to do", x.would(4, 0), 0);
        Check.add(x, "9:0.0<100");
        Check.add(x, "2:0.0<2");
        Check.add(x, "5:0.0<1");
        x.deliver(1, 0, 0, 0, 0);
        x.run(9999);
        for (int key = 0; key < 4; key++) {
            x.deliver(0, key, key, 0, 0);
        }
        x.step(1);
        // left: 3 evaluations of operator 0, 4 of 1, 2 of 2, a probe that finds one row, an output
        due("22: work, policy 0", x.would(0, 0), 3 * 9 + 4 * 2 + 2 * 5 + 2);
        due("22: steps, policy 0", x.would(0, 1), 3 + 4 + 2 + 1 + 1);
        due("22: outputs, policy 0", x.would(0, 2), 1);
        due("22: work, policy 1", x.would(1, 0), 8 + 10 + 2);
        due("22: nothing is changed", x.count(9), 2);
        due("22: nor the policy", x.count(5), 0);
        due("22: nor the counters", x.told(1, 3), 0);
        due("22: nor the events", x.event(0), 600);
        for (int p = 0; p < 5; p++) {
            agrees(x, p);
        }
    }

    /** What would be done is what is done. */
    private static void agrees(AdaptiveQueryExecutor x, int p) {
        x.image();
        long work = x.would(p, 0);
        long steps = x.would(p, 1);
        long outputs = x.would(p, 2);
        int stepsBefore = x.count(9);
        x.policy(p);
        due("22: work done with policy " + p, x.run(9999), work);
        due("22: steps done with policy " + p, x.count(9) - stepsBefore, steps);
        due("22: outputs with policy " + p, x.count(3), outputs);
        due("22: present outputs count, too", x.would(p, 2), outputs);
        x.undo();
    }

    // ---- promise 23

    private static void best() {
        AdaptiveQueryExecutor x = Check.with(1);
        due("23: nothing to do", x.best(), 0);
        Check.add(x, "9:0.0<100");
        Check.add(x, "2:0.0<100");
        x.deliver(0, 0, 0, 0, 0);
        due("23: a tie", x.best(), 0);
        x.deliver(0, 1, 200, 0, 0);
        due("23: the cheap one first", x.best(), 1);
        due("23: nothing is changed", x.count(9), 0);
        x.policy(4);
        due("23: with another policy set", x.best(), 1);
        AdaptiveQueryExecutor y = Check.with(1);
        Check.add(y, "2:0.0<900");
        Check.add(y, "2:0.0<900");
        Check.add(y, "2:0.0<100");
        y.deliver(0, 0, 200, 0, 0);
        due("23: the highest number first", y.best(), 3);
        bestIsTheLeastEvaluated();
    }

    /** Operators 0 and 2 have been evaluated and seem good; only operator 1 stops the last row. */
    private static void bestIsTheLeastEvaluated() {
        AdaptiveQueryExecutor x = Check.with(1);
        Check.add(x, "1:0.0<900");
        Check.add(x, "3:0.0<5");
        Check.add(x, "1:0.0>-900");
        x.policy(1);
        x.deliver(0, 0, 950, 0, 0);
        x.deliver(0, 1, -950, 0, 0);
        x.run(9999);
        x.deliver(0, 2, 100, 0, 0);
        int[] work = {4, 5, 5, 4, 3};
        for (int p = 0; p < 5; p++) {
            due("23: work of policy " + p, x.would(p, 0), work[p]);
        }
        due("23: the least evaluated first", x.best(), 4);
    }

    // ---- promise 24

    private static void age() {
        AdaptiveQueryExecutor x = Check.with(1);
        due("24: no operators", x.age(), 0);
        Check.add(x, "1:0.0<5");
        Check.add(x, "1:0.0<1");
        for (int key = 0; key < 7; key++) {
            x.deliver(0, key, key, 0, 0);
        }
        x.run(9999);
        due("24: evaluated", x.told(0, 3), 7);
        due("24: passed", x.told(0, 4), 5);
        due("24: evaluated 1", x.told(1, 3), 5);
        due("24: passed 1", x.told(1, 4), 1);
        x.remove(1);
        due("24: age, removed ones too", x.age(), 3 + 2);
        due("24: evaluated halved", x.told(0, 3), 3);
        due("24: passed halved", x.told(0, 4), 2);
        due("24: removed one halved", x.told(1, 3), 2);
        due("24: its passed halved", x.told(1, 4), 0);
        due("24: again", x.age(), 1 + 1);
        due("24: to nothing", x.age(), 0);
        due("24: the work stays", x.count(10), 12);
    }

    // ---- promise 25

    private static void event() {
        AdaptiveQueryExecutor x = Check.with(1, 1);
        due("25: no event", x.event(0), NONE);
        Check.add(x, "1:0.0=1.0");
        Check.add(x, "1:0.0<9");
        x.deliver(0, 0, 1, 0, 0);
        x.deliver(0, 0, 1, 0, 0);
        x.deliver(0, 1, 10, 0, 0);
        x.deliver(1, 0, 1, 0, 0);
        x.run(9999);
        x.remove(0);
        x.run(9999);
        x.drop(1, 0);
        // row 1 parks, source 1 probes, row 0 probes, and what the repeated probe finds parks, too
        int[] want = {300, 301, 100, 501, 600, 601, 700, 400, 650, 651, 501, 201};
        due("25: kept", x.count(11), want.length);
        for (int i = 0; i < want.length; i++) {
            due("25: event " + i, x.event(i), want[want.length - 1 - i]);
        }
        due("25: event -1", x.event(-1), NONE);
        due("25: event behind the last", x.event(x.count(11)), NONE);
        due("25: event max", x.event(Integer.MAX_VALUE), NONE);
        due("25: event min", x.event(Integer.MIN_VALUE), NONE);
        manyEvents();
    }

    private static void manyEvents() {
        AdaptiveQueryExecutor x = Check.with(1);
        x.deliver(0, 0, 0, 0, 0);
        x.step(1);
        for (int i = 0; i < 31; i++) {
            x.deliver(0, 0, 0, 0, 0);
        }
        due("25: 32 are kept", x.count(11), 32);
        due("25: the output is the last one kept", x.event(31), 700);
        x.drop(0, 0);
        due("25: 32 are kept still", x.count(11), 32);
        due("25: the drop is the latest", x.event(0), 200);
        due("25: the output is forgotten", x.event(31), 100);
        due("25: no event 32", x.event(32), NONE);
    }

    // ---- promises 26 and 27

    private static void image() {
        AdaptiveQueryExecutor x = Check.with(1);
        due("26: an empty queue", x.image(), 0);
        x.deliver(0, 0, 0, 0, 0);
        x.deliver(0, 1, 0, 0, 0);
        due("26: in place of the earlier one", x.image(), 2);
        x.step(2);
        due("26: undo", x.undo(), 2);
        due("26: the later one is restored", x.count(8), 2);
        x.step(1);
        due("26: with an output", x.image(), 1);
        x.step(1);
        x.undo();
        due("26: the output is there", x.count(3), 1);
    }

    private static void undo() {
        AdaptiveQueryExecutor x = Check.with(1, 1);
        due("27: no snapshot", x.undo(), STATE);
        Check.add(x, "2:0.0=1.0");
        Check.add(x, "3:0.0>1");
        x.deliver(0, 0, 1, 0, 0);
        x.deliver(0, 1, 2, 0, 0);
        x.deliver(1, 0, 2, 0, 0);
        x.deliver(1, 1, 3, 0, 0);
        x.deliver(1, 1, 3, 0, 0);
        x.step(8);
        Check.feed(x, "12:");
        int queued = x.image();
        int outputs = x.count(3);
        for (int i = 0; i < 2; i++) {
            x.run(9999);
            x.remove(0);
            x.drop(1, 0);
            Check.add(x, "1.0%2=1");
            due("27: undo", x.undo(), queued);
            due("27: the outputs", x.count(3), outputs);
            due("27: the operator is active", x.told(0, 2), 1);
            due("27: the row is live", x.value(1, 0, 12), 1);
            due("27: the tape", x.count(4), 3);
        }
        due("27: the text goes on", Check.add(x, "1.0%2=1"), 2);
    }

    // ---- promise 28

    private static void count() {
        AdaptiveQueryExecutor x = Check.with(1, 1);
        Check.add(x, "4:0.0<5");
        Check.add(x, "4:0.0<6");
        x.remove(1);
        x.policy(3);
        x.discipline(1);
        x.deliver(0, 0, 1, 0, 0);
        x.deliver(0, 1, 9, 0, 0);
        x.deliver(1, 0, 1, 0, 0);
        x.drop(1, 0);
        x.deliver(0, 2, 2, 0, 0);
        x.step(3);
        x.discipline(0);
        x.policy(1);
        x.deliver(1, 1, 1, 0, 0);
        x.run(9999);
        x.deliver(1, 2, 1, 0, 0);
        Check.feed(x, "abc");
        int[] want = {2, 2, 1, 2, 3, 1, 0, 1, 6, 11, 30, 11};
        for (int what = 0; what < 12; what++) {
            due("28: count(" + what + ")", x.count(what), want[what]);
        }
        due("28: count(12)", x.count(12), NONE);
        due("28: count(-1)", x.count(-1), NONE);
    }
}
