import java.util.ArrayList;
import java.util.List;
import java.util.Random;

/** Long runs of calls drawn with fixed seeds, each answer compared with that of the model. */
public final class ModelTest {
    private static final int RUNS = 400;
    private static final int LAST = 96;
    private static final int[] WILD = {Integer.MIN_VALUE, -1000, -999, -2, -1, 0, 1, 2, 3, 4, 5, 8, 9, 10, 11, 12, 13,
        15, 16, 17, 31, 32, 63, 64, 100, 101, 127, 128, 999, 1000, 9999, 10000, Integer.MAX_VALUE};

    private final Check check;
    private final Random random;
    private final int width;
    private final Model.Held model = new Model.Held();
    private final List<int[]> waiting = new ArrayList<>();

    private ModelTest(Check check, int seed) {
        this.check = check;
        random = new Random(seed);
        width = 1 + random.nextInt(4);
    }

    public static void main(String[] args) {
        Check check = new Check("model");
        for (int seed = 0; seed < RUNS && check.wrongs() == 0; seed++) {
            new ModelTest(check, seed).run(seed);
        }
        check.finish();
    }

    /** Of the calls of an object, the last ones are questions: every combination must be at just one place. */
    private void run(int seed) {
        AdaptiveQueryExecutor x = new AdaptiveQueryExecutor();
        StringBuilder told = new StringBuilder();
        for (int i = 0; i < Calls.MOST && check.wrongs() == 0; i++) {
            int last = i - (Calls.MOST - LAST);
            int[] call = last < 0 ? drawn(i) : Calls.of("where", last / 6 * 100 + last % 6 * 3);
            long got = Calls.make(x, call);
            told.append(' ').append(Calls.text(call)).append(": ").append(got).append(';');
            check.due("seed " + seed + ", call " + i + ", " + Calls.text(call), got, model.call(call));
        }
        if (check.wrongs() > 0) {
            System.out.println(told);
        }
    }

    private int[] drawn(int i) {
        if (!waiting.isEmpty()) {
            return waiting.remove(0);
        }
        if (i < 3 && random.nextInt(12) > 0) {
            return Calls.of("source", 1 + random.nextInt(3));
        }
        int kind = random.nextInt(100);
        if (kind < 4) {
            return wild();
        }
        if (kind < 24) {
            return delivery();
        }
        if (kind < 28) {
            for (char sign : operatorText().toCharArray()) {
                waiting.add(Calls.of("feed", sign));
            }
            waiting.add(Calls.of("operator"));
            return waiting.remove(0);
        }
        if (kind < 48) {
            return random.nextInt(4) > 0 ? Calls.of("step", 1 + random.nextInt(12))
                : Calls.of("run", 1 + random.nextInt(60));
        }
        return kind < 60 ? rareChange() : question();
    }

    private int[] wild() {
        int name = random.nextInt(Calls.ARITY.length);
        int[] call = new int[1 + Calls.ARITY[name]];
        call[0] = name;
        for (int i = 1; i < call.length; i++) {
            call[i] = random.nextBoolean() ? WILD[random.nextInt(WILD.length)] : random.nextInt(4);
        }
        return call;
    }

    private int small() {
        return random.nextInt(width + 1) - random.nextInt(2);
    }

    private int[] delivery() {
        return Calls.of("deliver", random.nextInt(3), random.nextInt(20), small(), small(), small());
    }

    private String reference() {
        return random.nextInt(3) + "." + random.nextInt(random.nextInt(3) + 1);
    }

    private String operatorText() {
        String a = reference();
        int source = a.charAt(0) - '0';
        int others = Math.max(1, model.ask("count", 0));
        String c = (source + 1 + random.nextInt(2)) % others + "." + random.nextInt(random.nextInt(3) + 1);
        int m = 1 + random.nextInt(random.nextBoolean() ? 3 : 99);
        String[] conditions = {a + "<" + small(), a + "=" + small(), a + ">" + small(),
            a + "%" + m + "=" + random.nextInt(m), a + "+" + source + "." + random.nextInt(2) + "<" + (small() + 2),
            a + "=" + c, a + "=" + c, a + "~" + c + "," + random.nextInt(3), a + "<" + c};
        String text = 1 + random.nextInt(random.nextBoolean() ? 9 : 99) + ":"
            + conditions[random.nextInt(conditions.length)];
        return random.nextInt(3) > 0 ? text : spoilt(text);
    }

    private String spoilt(String text) {
        String signs = "0123456789.:<=>%+~,- ";
        int at = random.nextInt(text.length() + 1);
        String sign = String.valueOf(signs.charAt(random.nextInt(signs.length())));
        switch (random.nextInt(3)) {
            case 0:
                return text.substring(0, at);
            case 1:
                return text.substring(0, at) + sign + text.substring(at);
            default:
                return text.substring(0, at) + sign + text.substring(Math.min(text.length(), at + 1));
        }
    }

    private int[] rareChange() {
        switch (random.nextInt(9)) {
            case 0:
                return Calls.of("window", random.nextInt(3), 1 + random.nextInt(8));
            case 1:
                return Calls.of("drop", random.nextInt(3), random.nextInt(Math.max(1, model.ask("of", 0, 1))));
            case 2:
                return Calls.of("remove", random.nextInt(Math.max(1, model.ask("count", 1))));
            case 3:
                return Calls.of("policy", random.nextInt(5));
            case 4:
                return Calls.of("discipline", random.nextInt(2));
            case 5:
                return Calls.of("age");
            case 6:
                return Calls.of("image");
            case 7:
                return Calls.of(random.nextInt(3) == 0 ? "undo" : "next");
            default:
                return Calls.of("run", 9999);
        }
    }

    private int[] question() {
        int operator = random.nextInt(Math.max(1, model.ask("count", 1)));
        switch (random.nextInt(14)) {
            case 0:
                return Calls.of("next");
            case 1:
            case 2: {
                int what = random.nextInt(7);
                int position = random.nextInt(Math.max(1, model.ask("count", 2)));
                return Calls.of("pending", position, what < 4 ? what : what + 6);
            }
            case 3:
                return Calls.of("told", operator, random.nextInt(8));
            case 4:
                return Calls.of("of", random.nextInt(3), random.nextInt(7));
            case 5: {
                int what = random.nextInt(6);
                return Calls.of("value", random.nextInt(3), random.nextInt(16), what < 3 ? what : what + 7);
            }
            case 6:
                return Calls.of("output", random.nextInt(Math.max(1, model.ask("count", 3))), random.nextInt(3));
            case 7:
            case 8:
                return Calls.of("where", code());
            case 9:
                return Calls.of("answer", random.nextInt(3));
            case 10:
                return Calls.of("rank", operator, random.nextInt(2));
            case 11:
                return random.nextInt(3) > 0 ? Calls.of("would", random.nextInt(5), random.nextInt(3))
                    : Calls.of("best");
            case 12:
                return Calls.of("event", random.nextInt(33));
            default:
                return Calls.of("count", random.nextInt(12));
        }
    }

    private int code() {
        int code = 0;
        for (int s = 0; s < model.ask("count", 0); s++) {
            int rows = Math.max(1, model.ask("of", s, 1));
            int row = random.nextInt(rows);
            for (int i = 0; i < 3 && model.ask("value", s, row, 12) != 1; i++) {
                row = random.nextInt(rows);
            }
            code = code * 100 + row;
        }
        return code;
    }
}
