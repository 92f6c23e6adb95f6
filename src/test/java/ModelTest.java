import java.util.ArrayList;
import java.util.List;
import java.util.Random;

/** Long runs of calls drawn with fixed seeds, each answer compared with that of the model. */
public final class ModelTest {
    private static final int RUNS = 400;
    private static final int CALLS = 511;
    private static final int[] WILD = {Integer.MIN_VALUE, -1000, -999, -2, -1, 0, 1, 2, 3, 4, 5, 8, 9, 10, 11, 12, 13,
        15, 16, 17, 31, 32, 63, 64, 100, 101, 127, 128, 999, 1000, 9999, 10000, Integer.MAX_VALUE};
    private static final int[] ARITY = {1, 2, 5, 2, 1, 0, 1, 1, 1, 1, 1, 0, 2, 2, 2, 3, 2, 1, 1, 2, 2, 0, 0, 1, 0, 0,
        1};

    private final Check check;
    private final Random random;
    private final int width;
    private final List<int[]> waiting = new ArrayList<>();

    private ModelTest(Check check, int seed) {
        this.check = check;
        random = new Random(seed);
        width = 1 + random.nextInt(4);
    }

    public static void main(String[] args) {
        Check check = new Check("model");
        for (int seed = 0; seed < RUNS && check.wrongs() == 0; seed++) {
            new ModelTest(check, seed).run(seed);
        }
        check.finish();
    }

    private void run(int seed) {
        AdaptiveQueryExecutor x = new AdaptiveQueryExecutor();
        Model[] model = {new Model()};
        @SuppressWarnings("unchecked")
        List<int[]>[] saved = (List<int[]>[]) new List<?>[1];
        StringBuilder told = new StringBuilder();
        for (int i = 0; i < CALLS && check.wrongs() == 0; i++) {
            int[] call = drawn(x, i);
            long got = made(x, call);
            told.append(' ').append(text(call)).append(": ").append(got).append(';');
            check.due("seed " + seed + ", call " + i + ", " + text(call), got, Model.call(model, saved, call));
        }
        if (check.wrongs() > 0) {
            System.out.println(told);
        }
        // beyond the 512 calls, but questions: every combination must be at just one place
        for (int a = 0; a < 16; a++) {
            for (int b = 0; b < 16; b += 3) {
                int[] call = {17, a * 100 + b};
                check.due("seed " + seed + ", in the end, " + text(call), made(x, call),
                    Model.call(model, saved, call));
            }
        }
    }

    private static String text(int[] call) {
        StringBuilder text = new StringBuilder(Model.CALLS[call[0]]).append('(');
        for (int i = 1; i < call.length; i++) {
            text.append(i > 1 ? ", " : "").append(call[i]);
        }
        return text.append(')').toString();
    }

    private int[] drawn(AdaptiveQueryExecutor x, int i) {
        if (!waiting.isEmpty()) {
            return waiting.remove(0);
        }
        if (i < 3 && random.nextInt(12) > 0) {
            return new int[] {0, 1 + random.nextInt(3)};
        }
        int kind = random.nextInt(100);
        if (kind < 4) {
            return wild();
        }
        if (kind < 24) {
            return delivery();
        }
        if (kind < 28) {
            for (char sign : operatorText(x).toCharArray()) {
                waiting.add(new int[] {4, sign});
            }
            waiting.add(new int[] {5});
            return waiting.remove(0);
        }
        if (kind < 48) {
            return random.nextInt(4) > 0 ? new int[] {9, 1 + random.nextInt(12)}
                : new int[] {10, 1 + random.nextInt(60)};
        }
        return kind < 60 ? rareChange(x) : question(x);
    }

    private int[] wild() {
        int name = random.nextInt(ARITY.length);
        int[] call = new int[1 + ARITY[name]];
        call[0] = name;
        for (int i = 1; i < call.length; i++) {
            call[i] = random.nextBoolean() ? WILD[random.nextInt(WILD.length)] : random.nextInt(4);
        }
        return call;
    }

    private int small() {
        return random.nextInt(width + 1) - random.nextInt(2);
    }

    private int[] delivery() {
        return new int[] {2, random.nextInt(3), random.nextInt(20), small(), small(), small()};
    }

    private String reference() {
        return random.nextInt(3) + "." + random.nextInt(random.nextInt(3) + 1);
    }

    private String operatorText(AdaptiveQueryExecutor x) {
        String a = reference();
        int source = a.charAt(0) - '0';
        int others = Math.max(1, x.count(0));
        String c = (source + 1 + random.nextInt(2)) % others + "." + random.nextInt(random.nextInt(3) + 1);
        int m = 1 + random.nextInt(random.nextBoolean() ? 3 : 99);
        String[] conditions = {a + "<" + small(), a + "=" + small(), a + ">" + small(),
            a + "%" + m + "=" + random.nextInt(m), a + "+" + source + "." + random.nextInt(2) + "<" + (small() + 2),
            a + "=" + c, a + "=" + c, a + "~" + c + "," + random.nextInt(3), a + "<" + c};
        String text = 1 + random.nextInt(random.nextBoolean() ? 9 : 99) + ":"
            + conditions[random.nextInt(conditions.length)];
        return random.nextInt(3) > 0 ? text : spoilt(text);
    }

    private String spoilt(String text) {
        String signs = "0123456789.:<=>%+~,- ";
        int at = random.nextInt(text.length() + 1);
        String sign = String.valueOf(signs.charAt(random.nextInt(signs.length())));
        switch (random.nextInt(3)) {
            case 0:
                return text.substring(0, at);
            case 1:
                return text.substring(0, at) + sign + text.substring(at);
            default:
                return text.substring(0, at) + sign + text.substring(Math.min(text.length(), at + 1));
        }
    }

    private int[] rareChange(AdaptiveQueryExecutor x) {
        switch (random.nextInt(9)) {
            case 0:
                return new int[] {1, random.nextInt(3), 1 + random.nextInt(8)};
            case 1:
                return new int[] {3, random.nextInt(3), random.nextInt(Math.max(1, x.of(0, 1)))};
            case 2:
                return new int[] {6, random.nextInt(Math.max(1, x.count(1)))};
            case 3:
                return new int[] {7, random.nextInt(5)};
            case 4:
                return new int[] {8, random.nextInt(2)};
            case 5:
                return new int[] {22};
            case 6:
                return new int[] {24};
            case 7:
                return new int[] {random.nextInt(3) == 0 ? 25 : 11};
            default:
                return new int[] {10, 9999};
        }
    }

    private int[] question(AdaptiveQueryExecutor x) {
        int operator = random.nextInt(Math.max(1, x.count(1)));
        switch (random.nextInt(14)) {
            case 0:
                return new int[] {11};
            case 1:
            case 2: {
                int what = random.nextInt(7);
                return new int[] {12, random.nextInt(Math.max(1, x.count(2))), what < 4 ? what : what + 6};
            }
            case 3:
                return new int[] {13, operator, random.nextInt(8)};
            case 4:
                return new int[] {14, random.nextInt(3), random.nextInt(7)};
            case 5: {
                int what = random.nextInt(6);
                return new int[] {15, random.nextInt(3), random.nextInt(16), what < 3 ? what : what + 7};
            }
            case 6:
                return new int[] {16, random.nextInt(Math.max(1, x.count(3))), random.nextInt(3)};
            case 7:
            case 8:
                return new int[] {17, code(x)};
            case 9:
                return new int[] {18, random.nextInt(3)};
            case 10:
                return new int[] {19, operator, random.nextInt(2)};
            case 11:
                return random.nextInt(3) > 0 ? new int[] {20, random.nextInt(5), random.nextInt(3)} : new int[] {21};
            case 12:
                return new int[] {23, random.nextInt(33)};
            default:
                return new int[] {26, random.nextInt(12)};
        }
    }

    private int code(AdaptiveQueryExecutor x) {
        int code = 0;
        for (int s = 0; s < x.count(0); s++) {
            int rows = Math.max(1, x.of(s, 1));
            int row = random.nextInt(rows);
            for (int i = 0; i < 3 && x.value(s, row, 12) != 1; i++) {
                row = random.nextInt(rows);
            }
            code = code * 100 + row;
        }
        return code;
    }

    private static long made(AdaptiveQueryExecutor x, int[] c) {
        switch (c[0]) {
            case 0:
                return x.source(c[1]);
            case 1:
                return x.window(c[1], c[2]);
            case 2:
                return x.deliver(c[1], c[2], c[3], c[4], c[5]);
            case 3:
                return x.drop(c[1], c[2]);
            case 4:
                return x.feed(c[1]);
            case 5:
                return x.operator();
            case 6:
                return x.remove(c[1]);
            case 7:
                return x.policy(c[1]);
            case 8:
                return x.discipline(c[1]);
            case 9:
                return x.step(c[1]);
            case 10:
                return x.run(c[1]);
            case 11:
                return x.next();
            case 12:
                return x.pending(c[1], c[2]);
            default:
                return asked(x, c);
        }
    }

    private static long asked(AdaptiveQueryExecutor x, int[] c) {
        switch (c[0]) {
            case 13:
                return x.told(c[1], c[2]);
            case 14:
                return x.of(c[1], c[2]);
            case 15:
                return x.value(c[1], c[2], c[3]);
            case 16:
                return x.output(c[1], c[2]);
            case 17:
                return x.where(c[1]);
            case 18:
                return x.answer(c[1]);
            case 19:
                return x.rank(c[1], c[2]);
            case 20:
                return x.would(c[1], c[2]);
            case 21:
                return x.best();
            case 22:
                return x.age();
            case 23:
                return x.event(c[1]);
            case 24:
                return x.image();
            case 25:
                return x.undo();
            default:
                return x.count(c[1]);
        }
    }
}
