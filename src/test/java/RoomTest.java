import com.sun.management.ThreadMXBean;
import java.lang.management.ManagementFactory;

/** All calls of a run live in one room, so the calls with the most work must make nothing anew. */
public final class RoomTest {
    private static final Check check = new Check("room");
    private static final ThreadMXBean THREADS = (ThreadMXBean) ManagementFactory.getThreadMXBean();
    /** What the measuring itself, and the machine behind it, may make. */
    private static final long NOISE = 20000;

    public static void main(String[] args) {
        made();
        AdaptiveQueryExecutor[] all = new AdaptiveQueryExecutor[512];
        long before = made();
        for (int i = 0; i < all.length; i++) {
            all[i] = new AdaptiveQueryExecutor();
        }
        check.due("a constructor makes less than 12 KiB", (made() - before) / all.length < 12 * 1024 ? 1 : 0, 1);
        AdaptiveQueryExecutor x = filled();
        check.due("combinations", x.answer(0), 512);
        x.image();
        dearCalls(x);
        before = made();
        for (int i = 0; i < 50; i++) {
            dearCalls(x);
        }
        check.due("dear calls make next to nothing", made() - before < NOISE ? 1 : 0, 1);
        before = made();
        for (int i = 0; i < 100; i++) {
            x.answer(2);
            Check.feed(x, "1:0.0<");
            x.operator();
        }
        check.due("an answer and a text make an object each", made() - before < NOISE ? 1 : 0, 1);
        check.finish();
    }

    private static long made() {
        return THREADS.getThreadAllocatedBytes(Thread.currentThread().getId());
    }

    /** As much as there can be: 8 live rows of 3 sources, and 11 operators that let all pass. */
    private static AdaptiveQueryExecutor filled() {
        AdaptiveQueryExecutor x = Check.with(3, 3, 3);
        String[] texts = {"9:0.0<5", "9:0.0~1.0,9", "9:1.0~2.0,9", "9:0.1%2=0", "9:2.0+2.1<99", "9:0.2<1.1",
            "9:0.0=1.0", "9:1.0=2.0", "9:2.0<5", "9:1.0>-5", "9:0.2<2.1"};
        for (String text : texts) {
            Check.add(x, text);
        }
        for (int key = 0; key < 8; key++) {
            for (int source = 0; source < 3; source++) {
                x.deliver(source, key, 0, 2, 1);
            }
        }
        return x;
    }

    private static void dearCalls(AdaptiveQueryExecutor x) {
        x.undo();
        x.best();
        x.would(2, 0);
        x.step(100);
        x.run(9999);
        x.remove(6);
        x.run(9999);
        x.where(70707);
        x.next();
        x.undo();
        x.image();
    }
}
