import java.util.ArrayList;
import java.util.List;

/**
 * Tells whether two runs of calls lead to the same state, by what all questions answer behind them, and by what
 * a few further calls answer that show the tape, the snapshot and all that lies behind the questions. Objects are made
 * anew for every block of calls, since an object is used for at most 512 of them.
 */
final class Twins {
    private static final int BLOCK = 200;

    private Twins() {
    }

    /** The first call that is answered differently behind the two runs, null if there is none. */
    static String difference(List<int[]> first, List<int[]> second, boolean tapeToo) {
        int room = Calls.MOST - Math.max(first.size(), second.size());
        for (List<int[]> block : blocks(first, Math.min(BLOCK, room), tapeToo)) {
            AdaptiveQueryExecutor x = after(first);
            AdaptiveQueryExecutor y = after(second);
            for (int[] call : block) {
                long one = Calls.make(x, call);
                long other = Calls.make(y, call);
                if (one != other) {
                    return Calls.text(call) + " answers " + one + " and " + other;
                }
            }
        }
        return null;
    }

    static AdaptiveQueryExecutor after(List<int[]> calls) {
        AdaptiveQueryExecutor x = new AdaptiveQueryExecutor();
        for (int[] call : calls) {
            Calls.make(x, call);
        }
        return x;
    }

    private static List<List<int[]>> blocks(List<int[]> run, int length, boolean tapeToo) {
        List<int[]> questions = questions(after(run), tapeToo);
        List<List<int[]>> blocks = new ArrayList<>();
        for (int from = 0; from < questions.size(); from += length) {
            blocks.add(questions.subList(from, Math.min(questions.size(), from + length)));
        }
        blocks.add(behind(questions, length, Calls.of("run", 9999), Calls.of("run", 9999)));
        blocks.add(behind(questions, length, Calls.of("undo"), Calls.of("step", 1)));
        blocks.add(behind(questions, length, Calls.of("age"), Calls.of("policy", 2), Calls.of("step", 7)));
        if (tapeToo) {
            blocks.add(behind(questions, length, Calls.of("undo"), Calls.of("operator"), Calls.of("step", 1)));
            blocks.add(behind(questions, length, Calls.of("operator"), Calls.of("step", 100)));
            blocks.add(behind(questions, length, Calls.of("feed", '5'), Calls.of("operator")));
        }
        return blocks;
    }

    /** Calls that change the state, and then as many questions as there is room for. */
    private static List<int[]> behind(List<int[]> questions, int length, int[]... changes) {
        List<int[]> block = new ArrayList<>(List.of(changes));
        block.addAll(questions);
        return block.subList(0, Math.min(length, block.size()));
    }

    private static List<int[]> questions(AdaptiveQueryExecutor x, boolean tapeToo) {
        List<int[]> all = new ArrayList<>();
        for (int what = 0; what < 12; what++) {
            if (what != 4 || tapeToo) {
                all.add(Calls.of("count", what));
            }
        }
        all.add(Calls.of("next"));
        for (int what = 0; what < 3; what++) {
            all.add(Calls.of("answer", what));
        }
        int sources = x.count(0);
        addOperators(x.count(1), all);
        addEvents(x.count(11), all);
        addElements(x.count(2), all);
        addOutputs(x.count(3), sources, all);
        addSources(x, sources, all);
        all.add(Calls.of("best"));
        for (int i = 0; i < 15; i++) {
            all.add(Calls.of("would", i / 3, i % 3));
        }
        return all;
    }

    private static void addOperators(int operators, List<int[]> all) {
        for (int operator = 0; operator <= operators; operator++) {
            for (int what = 0; what < 8; what++) {
                all.add(Calls.of("told", operator, what));
            }
            all.add(Calls.of("rank", operator, 0));
            all.add(Calls.of("rank", operator, 1));
        }
    }

    private static void addEvents(int events, List<int[]> all) {
        for (int i = 0; i <= events; i++) {
            all.add(Calls.of("event", i));
        }
    }

    private static void addElements(int elements, List<int[]> all) {
        for (int i = 0; i <= elements; i++) {
            for (int what = 0; what < 7; what++) {
                all.add(Calls.of("pending", i, what < 4 ? what : what + 6));
            }
        }
    }

    private static void addOutputs(int outputs, int sources, List<int[]> all) {
        for (int i = 0; i <= outputs; i++) {
            for (int source = 0; source <= sources; source++) {
                all.add(Calls.of("output", i, source));
            }
        }
    }

    /** The properties of sources and rows, and where each combination of live rows is. */
    private static void addSources(AdaptiveQueryExecutor x, int sources, List<int[]> all) {
        List<Integer> codes = new ArrayList<>(List.of(0));
        for (int source = 0; source <= sources; source++) {
            for (int what = 0; what < 7; what++) {
                all.add(Calls.of("of", source, what));
            }
            int rows = x.of(source, 1);
            List<Integer> longer = new ArrayList<>();
            for (int row = 0; row <= rows; row++) {
                for (int what = 0; what < 6; what++) {
                    all.add(Calls.of("value", source, row, what < 3 ? what : what + 7));
                }
                if (x.value(source, row, 12) == 1) {
                    for (int code : codes) {
                        longer.add(code * 100 + row);
                    }
                }
            }
            codes = source < sources ? longer : codes;
        }
        for (int code : codes) {
            all.add(Calls.of("where", code));
        }
    }
}
