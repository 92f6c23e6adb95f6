import java.util.ArrayList;
import java.util.HashMap;
import java.util.HashSet;
import java.util.List;
import java.util.Map;
import java.util.Set;

/**
 * The texts of operators: all right texts of one cost are listed, and then every beginning of one of them is tried with
 * one more byte behind it, so that every error position is met for each reason that there is. Costs are tried alone.
 */
public final class TextTest {
    private static final String BYTES = "0123456789.:<=>%+~,- x;/\0\1\t\n\u007f";
    private static final int MOST_OPERATORS = 12;
    private static final Check check = new Check("texts");

    private final int[] widths;
    /** The right texts, with their kinds and their sources. */
    private final Map<String, int[]> right = new HashMap<>();
    private final Set<String> beginnings = new HashSet<>();
    private AdaptiveQueryExecutor x;
    private int calls = Calls.MOST;
    private int operators;

    private TextTest(int... widths) {
        this.widths = widths;
    }

    public static void main(String[] args) {
        new TextTest().checkAll();
        new TextTest(1).checkAll();
        new TextTest(2, 3).checkAll();
        new TextTest(1, 1, 2).checkAll();
        costs();
        numbers();
        remainders();
        bands();
        check.finish();
    }

    private void checkAll() {
        for (int s = 0; s < widths.length; s++) {
            for (int v = 0; v < widths[s]; v++) {
                listWith("7:" + s + "." + v, s);
            }
        }
        // what does not exist is found missing where its digit stands, not before
        beginnings.add("7:");
        if (widths.length > 0) {
            beginnings.add("7:0.0~");
        }
        for (String text : right.keySet()) {
            for (int length = 0; length < text.length(); length++) {
                beginnings.add(text.substring(0, length));
            }
        }
        beginnings.add("");
        beginnings.add("7");
        Set<String> tried = new HashSet<>(beginnings);
        tried.addAll(right.keySet());
        for (String begin : tried) {
            add(begin, due(begin, begin.length()));
            for (char sign : BYTES.toCharArray()) {
                if (begin.isEmpty() && sign >= '1' && sign <= '9' || begin.equals("7") && Character.isDigit(sign)) {
                    continue;
                }
                String longer = begin + sign;
                boolean goesOn = beginnings.contains(longer) || right.containsKey(longer);
                add(longer, due(longer, goesOn ? longer.length() : begin.length()));
                if (!goesOn) {
                    add(longer + "5:0.0<5", -10 - begin.length());
                }
            }
        }
    }

    private int due(String text, int position) {
        return right.containsKey(text) ? -1 : -10 - position;
    }

    private void listWith(String begin, int source) {
        int own = 1 << source;
        for (int n = -999; n <= 999; n++) {
            list(begin + "<" + n, 0, own);
            list(begin + "=" + n, 0, own);
            list(begin + ">" + n, 0, own);
            for (int v = 0; v < widths[source]; v++) {
                list(begin + "+" + source + "." + v + "<" + n, 2, own);
            }
        }
        for (int m = 1; m <= 99; m++) {
            for (int r = 0; r < m; r++) {
                list(begin + "%" + m + "=" + r, 1, own);
            }
        }
        for (int s = 0; s < widths.length; s++) {
            for (int v = 0; s != source && v < widths[s]; v++) {
                String other = s + "." + v;
                list(begin + "=" + other, 3, own | 1 << s);
                list(begin + "<" + other, 5, own | 1 << s);
                for (int w = 0; w <= 99; w++) {
                    list(begin + "~" + other + "," + w, 4, own | 1 << s);
                }
            }
        }
    }

    private void list(String text, int kind, int sources) {
        right.put(text, new int[] {kind, sources});
    }

    /** Adds a text; -1 is due if it is right. */
    private void add(String text, int due) {
        if (calls + text.length() + 4 > Calls.MOST || operators == MOST_OPERATORS) {
            x = Check.with(widths);
            calls = widths.length;
            operators = 0;
        }
        calls += text.length() + 1;
        int got = Check.add(x, text);
        if (due != -1) {
            check.due(shown(text), got, due);
            return;
        }
        check.due(shown(text), got, operators);
        check.due(shown(text) + ", its kind", x.told(operators, 0), right.get(text)[0]);
        check.due(shown(text) + ", its cost", x.told(operators, 1), 7);
        check.due(shown(text) + ", its sources", x.told(operators, 7), right.get(text)[1]);
        calls += 3;
        operators++;
    }

    private static String shown(String text) {
        StringBuilder shown = new StringBuilder("the text ");
        for (char sign : text.toCharArray()) {
            shown.append(sign > ' ' && sign < 127 ? String.valueOf(sign) : "<" + (int) sign + ">");
        }
        return shown.toString();
    }

    // ---- what has been read is what is written

    private static void costs() {
        for (int cost = 0; cost <= 1000; cost++) {
            AdaptiveQueryExecutor x = Check.with(1);
            boolean fits = cost >= 1 && cost <= 99;
            check.due("cost " + cost, Check.add(x, cost + ":0.0<5"), fits ? 0 : cost == 0 ? -10 : -12);
            check.due("cost " + cost + " is told", x.told(0, 1), fits ? cost : -1);
            check.due("cost " + cost + " with a leading zero", Check.add(x, "0" + cost + ":0.0<5"), -10);
        }
    }

    private static AdaptiveQueryExecutor withValues(int... values) {
        AdaptiveQueryExecutor x = Check.with(1, 1);
        x.deliver(1, 0, 0, 0, 0);
        for (int i = 0; i < values.length; i++) {
            x.deliver(0, i, Math.max(-999, Math.min(999, values[i])), 0, 0);
        }
        return x;
    }

    private static void holds(String condition, int rows, int... values) {
        AdaptiveQueryExecutor x = withValues(values);
        Check.add(x, "1:" + condition);
        check.due(condition + " holds for", x.answer(0), rows);
    }

    private static void numbers() {
        for (int n = -998; n <= 998; n++) {
            holds("0.0<" + n, 1, n - 1, n, n + 1);
            holds("0.0=" + n, 1, n - 1, n, n + 1);
            holds("0.0>" + n, 1, n - 1, n, n + 1);
        }
        for (int n = -499; n <= 499; n++) {
            holds("0.0+0.0<" + 2 * n, 1, n - 1, n);
            holds("0.0+0.0<" + (2 * n + 1), 1, n, n + 1);
        }
    }

    private static void remainders() {
        for (int m = 1; m <= 99; m++) {
            for (int r = 0; r < m; r++) {
                List<Integer> held = new ArrayList<>();
                for (int value = r - 2 * m; value <= r + 2 * m; value += m) {
                    held.add(value);
                }
                int[] values = {held.get(0), held.get(1), held.get(2), held.get(4), held.get(0) - 1, held.get(4) + 1};
                holds("0.0%" + m + "=" + r, m == 1 ? 6 : 4, values);
            }
        }
    }

    private static void bands() {
        for (int w = 0; w <= 99; w++) {
            holds("0.0~1.0," + w, 3, -w - 1, -w, Math.max(0, w - 1), w, w + 1);
            holds("1.0~0.0," + w, 3, -w - 1, -w, Math.min(0, 1 - w), w, w + 1);
        }
    }
}
