/** Compares answers with those that are due, and prints every call whose answer is another one. */
final class Check {
    private final String title;
    private int right = 0;
    private int wrong = 0;

    Check(String title) {
        this.title = title;
    }

    void due(String call, long got, long want) {
        if (got == want) {
            right++;
        } else {
            wrong++;
            System.out.println(title + ": " + call + " answered " + got + ", due is " + want);
        }
    }

    int wrongs() {
        return wrong;
    }

    /** Ends the program with exit code 1 if an answer was wrong. */
    void finish() {
        System.out.println(title + ": " + right + " answers as due, " + wrong + " not as due");
        if (wrong != 0 || right == 0) {
            System.exit(1);
        }
    }

    /** Feeds a text byte by byte and returns the last answer of feed. */
    static int feed(AdaptiveQueryExecutor x, String text) {
        int last = x.count(4);
        for (int i = 0; i < text.length(); i++) {
            last = x.feed(text.charAt(i));
        }
        return last;
    }

    /** Feeds a text and adds an operator from it. */
    static int add(AdaptiveQueryExecutor x, String text) {
        feed(x, text);
        return x.operator();
    }

    /** A new executor with a source for each of the widths. */
    static AdaptiveQueryExecutor with(int... widths) {
        AdaptiveQueryExecutor x = new AdaptiveQueryExecutor();
        for (int width : widths) {
            x.source(width);
        }
        return x;
    }
}
