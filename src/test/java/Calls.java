/** Calls as rows of numbers, the number of the method first, so that runs can be read, drawn and made again. */
final class Calls {
    static final String[] NAMES = {"source", "window", "deliver", "drop", "feed", "operator", "remove", "policy",
        "discipline", "step", "run", "next", "pending", "told", "of", "value", "output", "where", "answer", "rank",
        "would", "best", "age", "event", "image", "undo", "count"};
    static final int[] ARITY = {1, 2, 5, 2, 1, 0, 1, 1, 1, 1, 1, 0, 2, 2, 2, 3, 2, 1, 1, 2, 2, 0, 0, 1, 0, 0, 1};
    /** An object is used for at most so many calls. */
    static final int MOST = 512;

    private Calls() {
    }

    static int[] of(String name, int... arguments) {
        for (int number = 0; number < NAMES.length; number++) {
            if (NAMES[number].equals(name) && ARITY[number] == arguments.length) {
                int[] call = new int[1 + arguments.length];
                call[0] = number;
                System.arraycopy(arguments, 0, call, 1, arguments.length);
                return call;
            }
        }
        throw new IllegalArgumentException("no such call: " + name + " with " + arguments.length + " arguments");
    }

    /** A call as it is written: deliver(0, 63, -999, 0, 0); min and max are the ends of int. */
    static int[] read(String text) {
        int open = text.indexOf('(');
        if (open < 0 || !text.endsWith(")")) {
            throw new IllegalArgumentException("no call: " + text);
        }
        String inside = text.substring(open + 1, text.length() - 1).trim();
        String[] words = inside.isEmpty() ? new String[0] : inside.split(",");
        int[] arguments = new int[words.length];
        for (int i = 0; i < words.length; i++) {
            arguments[i] = number(words[i].trim());
        }
        return of(text.substring(0, open), arguments);
    }

    private static int number(String word) {
        switch (word) {
            case "min":
                return Integer.MIN_VALUE;
            case "max":
                return Integer.MAX_VALUE;
            default:
                return Integer.parseInt(word);
        }
    }

    static String text(int[] call) {
        StringBuilder text = new StringBuilder(NAMES[call[0]]).append('(');
        for (int i = 1; i < call.length; i++) {
            text.append(i > 1 ? ", " : "").append(call[i]);
        }
        return text.append(')').toString();
    }

    static boolean isQuestion(int[] call) {
        switch (NAMES[call[0]]) {
            case "next":
            case "pending":
            case "told":
            case "of":
            case "value":
            case "output":
            case "where":
            case "answer":
            case "rank":
            case "would":
            case "best":
            case "event":
            case "count":
                return true;
            default:
                return false;
        }
    }

    static long make(AdaptiveQueryExecutor x, int[] c) {
        switch (NAMES[c[0]]) {
            case "source":
                return x.source(c[1]);
            case "window":
                return x.window(c[1], c[2]);
            case "deliver":
                return x.deliver(c[1], c[2], c[3], c[4], c[5]);
            case "drop":
                return x.drop(c[1], c[2]);
            case "feed":
                return x.feed(c[1]);
            case "operator":
                return x.operator();
            case "remove":
                return x.remove(c[1]);
            case "policy":
                return x.policy(c[1]);
            case "discipline":
                return x.discipline(c[1]);
            case "step":
                return x.step(c[1]);
            case "run":
                return x.run(c[1]);
            case "age":
                return x.age();
            case "image":
                return x.image();
            case "undo":
                return x.undo();
            default:
                return ask(x, c);
        }
    }

    private static long ask(AdaptiveQueryExecutor x, int[] c) {
        switch (NAMES[c[0]]) {
            case "next":
                return x.next();
            case "pending":
                return x.pending(c[1], c[2]);
            case "told":
                return x.told(c[1], c[2]);
            case "of":
                return x.of(c[1], c[2]);
            case "value":
                return x.value(c[1], c[2], c[3]);
            case "output":
                return x.output(c[1], c[2]);
            case "where":
                return x.where(c[1]);
            case "answer":
                return x.answer(c[1]);
            case "rank":
                return x.rank(c[1], c[2]);
            case "would":
                return x.would(c[1], c[2]);
            case "best":
                return x.best();
            case "event":
                return x.event(c[1]);
            default:
                return x.count(c[1]);
        }
    }
}
