import java.util.ArrayList;
import java.util.List;

/**
 * In the state behind each written run: every method with the arguments at, before and behind the edges of their
 * ranges, alone and together, compared with the model. So every order of errors is met in many states.
 */
public final class EdgeTest {
    private static final int MIN = Integer.MIN_VALUE;
    private static final int MAX = Integer.MAX_VALUE;
    private static final int[] SOURCES = {MIN, -1, 0, 1, 2, 3, MAX};
    private static final int[] OPERATORS = {MIN, -1, 0, 1, 2, 10, 11, 12, MAX};
    private static final int[] POSITIONS = {MIN, -1, 0, 1, 7, 8, 23, 24, 31, 32, MAX};
    private static final int[] ROWS = {MIN, -1, 0, 1, 7, 8, 15, 16, MAX};
    private static final int[] SELECTORS = {MIN, -1, 0, 1, 2, 3, 4, 5, 6, 7, 8, 9, 10, 11, 12, 13, MAX};
    private static final int[] NUMBERS = {MIN, -1, 0, 1, 2, 3, 4, 5, 8, 9, 99, 100, 101, 127, 128, 9998, 9999, 10000,
        MAX};
    private static final int[] KEYS = {MIN, -1, 0, 7, 63, 64, MAX};
    private static final int[] VALUES = {MIN, -1000, -999, 999, 1000, MAX};
    private static final int[] CODES = {MIN, -10101, -1, 0, 1, 7, 8, 15, 16, 99, 100, 101, 808, 1515, 1516, 1615, 9999,
        10000, 10001, 10101, 80808, 151515, 161515, 151615, 151516, 1000000, 1151515, MAX};

    private static final Check check = new Check("edges");

    public static void main(String[] args) {
        List<int[]> calls = calls();
        for (Written run : new Runs().all) {
            if (run.calls().size() < Calls.MOST - 100 && check.wrongs() < 20) {
                checkAll(run, calls);
            }
        }
        check.finish();
    }

    private static List<int[]> calls() {
        List<int[]> all = new ArrayList<>();
        add(all, "source", NUMBERS);
        add(all, "window", SOURCES, NUMBERS);
        addDeliveries(all);
        add(all, "drop", SOURCES, ROWS);
        add(all, "feed", NUMBERS);
        add(all, "operator");
        add(all, "remove", OPERATORS);
        add(all, "policy", NUMBERS);
        add(all, "discipline", NUMBERS);
        add(all, "step", NUMBERS);
        add(all, "run", NUMBERS);
        add(all, "next");
        add(all, "pending", POSITIONS, SELECTORS);
        add(all, "told", OPERATORS, SELECTORS);
        add(all, "of", SOURCES, SELECTORS);
        add(all, "value", SOURCES, ROWS, SELECTORS);
        add(all, "output", POSITIONS, SOURCES);
        add(all, "where", CODES);
        add(all, "answer", SELECTORS);
        add(all, "rank", OPERATORS, new int[] {MIN, -1, 0, 1, 2, MAX});
        add(all, "would", new int[] {MIN, -1, 0, 1, 2, 3, 4, 5, MAX}, new int[] {MIN, -1, 0, 1, 2, 3, MAX});
        add(all, "best");
        add(all, "age");
        add(all, "event", POSITIONS);
        add(all, "image");
        add(all, "undo");
        add(all, "count", SELECTORS);
        return all;
    }

    /** Adds a call for each choice of one argument from each list. */
    private static void add(List<int[]> all, String name, int[]... choices) {
        int total = 1;
        for (int[] choice : choices) {
            total *= choice.length;
        }
        for (int number = 0; number < total; number++) {
            int rest = number;
            int[] arguments = new int[choices.length];
            for (int i = 0; i < choices.length; i++) {
                arguments[i] = choices[i][rest % choices[i].length];
                rest /= choices[i].length;
            }
            all.add(Calls.of(name, arguments));
        }
    }

    /** Values are put to their edges one by one. */
    private static void addDeliveries(List<int[]> all) {
        for (int source : SOURCES) {
            for (int key : KEYS) {
                all.add(Calls.of("deliver", source, key, 0, 0, 0));
                for (int value : VALUES) {
                    all.add(Calls.of("deliver", source, key, value, 0, 0));
                    all.add(Calls.of("deliver", source, key, 0, value, 0));
                    all.add(Calls.of("deliver", source, key, 0, 0, value));
                }
            }
        }
    }

    private static void checkAll(Written run, List<int[]> calls) {
        AdaptiveQueryExecutor x = null;
        Model.Held model = null;
        int made = Calls.MOST;
        for (int[] call : calls) {
            if (made >= Calls.MOST) {
                x = Twins.after(run.calls());
                model = Model.after(run.calls());
                made = run.calls().size();
            }
            long due = model.call(call);
            check.due("behind " + run.title + ": " + Calls.text(call), Calls.make(x, call), due);
            boolean refused = due == Long.MIN_VALUE || due < 0 && !Calls.NAMES[call[0]].equals("operator");
            made = refused || Calls.isQuestion(call) ? made + 1 : Calls.MOST;
        }
    }
}
