import java.util.ArrayList;
import java.util.List;
import java.util.Random;
import java.util.Set;
import java.util.TreeSet;

/**
 * Ledgers keep every combination of rows from being produced twice or lost: behind drawn calls each combination of
 * live rows is at a place, no output is there twice, and when all operators are gone, all combinations are outputs.
 * Unlike ModelTest it needs no model of the steps.
 */
public final class LedgerTest {
    private static final int RUNS = 300;
    private static final int CHANGES = 120;
    private static final Check check = new Check("ledgers");

    public static void main(String[] args) {
        for (int seed = 0; seed < RUNS && check.wrongs() == 0; seed++) {
            List<int[]> calls = drawn(new Random(seed));
            for (int end = CHANGES / 4; end <= calls.size(); end += CHANGES / 4) {
                checkBehind("seed " + seed + ", " + end + " calls", calls.subList(0, end));
            }
        }
        check.finish();
    }

    /** Few rows of a source are live, so that an object has calls enough to be asked for all combinations. */
    private static List<int[]> drawn(Random random) {
        List<int[]> calls = new ArrayList<>();
        int sources = 1 + random.nextInt(3);
        for (int source = 0; source < sources; source++) {
            calls.add(Calls.of("source", 2));
            calls.add(window(random, source, sources));
        }
        while (calls.size() < CHANGES) {
            addChange(random, sources, calls);
        }
        return calls;
    }

    private static void addChange(Random random, int sources, List<int[]> calls) {
        int source = random.nextInt(sources);
        int kind = random.nextInt(40);
        if (kind < 16) {
            calls.add(Calls.of("deliver", source, random.nextInt(64), random.nextInt(3), random.nextInt(3), 0));
        } else if (kind < 30) {
            calls.add(Calls.of("step", 1 + random.nextInt(6)));
        } else if (kind < 34) {
            for (char sign : text(random, source, sources).toCharArray()) {
                calls.add(Calls.of("feed", sign));
            }
            calls.add(Calls.of("operator"));
        } else {
            calls.add(rareChange(random, source, sources));
        }
    }

    private static String text(Random random, int source, int sources) {
        String a = source + "." + random.nextInt(2);
        String c = (source + 1 + random.nextInt(2)) % sources + "." + random.nextInt(2);
        String[] conditions = {"=" + c, "=" + c, "=" + c, "<" + c, "~" + c + ",1", "<" + random.nextInt(3), "%2=0"};
        return 1 + random.nextInt(9) + ":" + a + conditions[random.nextInt(conditions.length)];
    }

    private static int[] window(Random random, int source, int sources) {
        return Calls.of("window", source, 1 + random.nextInt(sources == 3 ? 3 : 5));
    }

    private static int[] rareChange(Random random, int source, int sources) {
        switch (random.nextInt(7)) {
            case 0:
                return Calls.of("drop", source, random.nextInt(16));
            case 1:
                return window(random, source, sources);
            case 2:
                return Calls.of("policy", random.nextInt(5));
            case 3:
                return Calls.of("discipline", random.nextInt(2));
            case 4:
                return Calls.of(random.nextBoolean() ? "image" : "undo");
            default:
                return Calls.of("remove", random.nextInt(6));
        }
    }

    private static void checkBehind(String title, List<int[]> calls) {
        checkPlaces(title, Twins.after(calls));
        checkSettled(title, Twins.after(calls));
        checkWithoutOperators(title, Twins.after(calls));
    }

    /** Each combination is at a place, and the outputs are those that are told to be there. */
    private static void checkPlaces(String title, AdaptiveQueryExecutor x) {
        Set<Integer> outputs = outputs(x);
        boolean settled = x.count(2) == 0;
        check.due(title + ": different outputs", outputs.size(), x.count(3));
        for (int code : combinations(x)) {
            int place = x.where(code);
            boolean parked = place >= 10 && x.told(place - 10, 2) == 1;
            check.due(title + ": the place " + place + " of " + code, place == 1 || place == 2 || parked ? 1 : 0, 1);
            check.due(title + ": an output " + code, place == 1 ? 1 : 0, outputs.contains(code) ? 1 : 0);
            check.due(title + ": no queue for " + code, place == 2 && settled ? 1 : 0, 0);
        }
    }

    /** When the queue is empty, the outputs are the answer. */
    private static void checkSettled(String title, AdaptiveQueryExecutor x) {
        settle(x);
        check.due(title + ": the queue is empty", x.count(2), 0);
        check.due(title + ": the outputs are the answer", x.answer(2), 1);
        check.due(title + ": as many outputs", x.count(3), x.answer(0));
        checkPlaces(title + ", settled", x);
    }

    private static void checkWithoutOperators(String title, AdaptiveQueryExecutor x) {
        for (int operator = x.count(1) - 1; operator >= 0; operator--) {
            x.remove(operator);
            x.step(3);
        }
        settle(x);
        Set<Integer> combinations = combinations(x);
        check.due(title + ": all combinations are outputs", outputs(x).equals(combinations) ? 1 : 0, 1);
        check.due(title + ": each is there once", x.count(3), combinations.size());
        check.due(title + ": all is settled", x.answer(2), 1);
    }

    private static void settle(AdaptiveQueryExecutor x) {
        for (int i = 0; i < 5 && x.count(2) > 0; i++) {
            x.run(9999);
        }
    }

    private static Set<Integer> outputs(AdaptiveQueryExecutor x) {
        Set<Integer> codes = new TreeSet<>();
        int outputs = x.count(3);
        int sources = x.count(0);
        for (int i = 0; i < outputs; i++) {
            int code = 0;
            for (int source = 0; source < sources; source++) {
                code = code * 100 + x.output(i, source);
            }
            codes.add(code);
        }
        return codes;
    }

    private static Set<Integer> combinations(AdaptiveQueryExecutor x) {
        Set<Integer> codes = new TreeSet<>(Set.of(0));
        for (int source = 0; source < x.count(0); source++) {
            Set<Integer> longer = new TreeSet<>();
            int rows = x.of(source, 1);
            for (int row = 0; row < rows; row++) {
                for (int code : x.value(source, row, 12) == 1 ? codes : Set.<Integer>of()) {
                    longer.add(code * 100 + row);
                }
            }
            codes = longer;
        }
        return codes;
    }
}
