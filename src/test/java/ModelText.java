/**
 * The texts of operators once more: a text is held against each of the eight forms alone, and its
 * error position is the furthest that any of them comes to.
 */
final class ModelText {
    private static final String[] FORMS = {"A<n", "A=n", "A>n", "A%m=r", "A+B<n", "A=C", "A~C,w", "A<C"};
    private static final int[] KINDS = {0, 0, 0, 1, 2, 3, 4, 5};

    /** The error position, -1 if the text is right. */
    int error = -1;
    String form;
    int cost;
    int source;
    int value;
    int otherSource = -1;
    int otherValue;
    int m;
    int n;
    private int at;

    static ModelText read(String text, int[] widths) {
        int furthest = 0;
        ModelText last = null;
        for (String form : FORMS) {
            last = new ModelText();
            last.form = form;
            last.readForm(text, widths);
            if (last.error < 0) {
                return last;
            }
            furthest = Math.max(furthest, last.error);
        }
        last.error = furthest;
        return last;
    }

    int kind() {
        for (int i = 0; i < FORMS.length; i++) {
            if (FORMS[i].equals(form)) {
                return KINDS[i];
            }
        }
        return -1;
    }

    private void readForm(String text, int[] widths) {
        String pattern = "c:" + form;
        for (int i = 0; i < pattern.length() && error < 0; i++) {
            readPart(pattern.charAt(i), text, widths);
        }
        if (error < 0 && at < text.length()) {
            error = at;
        }
    }

    private void readPart(char part, String text, int[] widths) {
        switch (part) {
            case 'c':
                cost = number(text, 1, 99);
                break;
            case 'A':
                source = digit(text, widths.length, -1);
                point(text);
                value = digit(text, error < 0 ? widths[source] : 0, -1);
                break;
            case 'B':
                int same = digit(text, widths.length, -1);
                if (error < 0 && same != source) {
                    error = at - 1;
                }
                point(text);
                otherValue = digit(text, widths[source], -1);
                break;
            case 'C':
                otherSource = digit(text, widths.length, source);
                point(text);
                otherValue = digit(text, error < 0 ? widths[otherSource] : 0, -1);
                break;
            case 'n':
                boolean minus = at < text.length() && text.charAt(at) == '-';
                at += minus ? 1 : 0;
                n = minus ? -number(text, 1, 999) : number(text, 0, 999);
                break;
            case 'm':
                m = number(text, 1, 99);
                break;
            case 'r':
                n = number(text, 0, m - 1);
                break;
            case 'w':
                n = number(text, 0, 99);
                break;
            default:
                literal(text, part);
                break;
        }
    }

    private void literal(String text, char sign) {
        if (error >= 0) {
            return;
        }
        if (at >= text.length() || text.charAt(at) != sign) {
            error = at;
        } else {
            at++;
        }
    }

    private void point(String text) {
        literal(text, '.');
    }

    private int digit(String text, int below, int not) {
        if (error >= 0) {
            return 0;
        }
        int digit = at < text.length() ? text.charAt(at) - '0' : -1;
        if (digit < 0 || digit >= below || digit == not) {
            error = at;
            return 0;
        }
        at++;
        return digit;
    }

    /** The longest beginning of the rest that is the beginning of a number of the range. */
    private int number(String text, int low, int high) {
        if (error >= 0) {
            return 0;
        }
        int end = at;
        while (end < text.length() && begins(text.substring(at, end + 1), low, high)) {
            end++;
        }
        boolean digitBehind = end < text.length() && Character.isDigit(text.charAt(end));
        int found = end > at ? Integer.parseInt(text.substring(at, end)) : 0;
        at = end;
        if (found < low || end == 0 || !Character.isDigit(text.charAt(end - 1)) || digitBehind) {
            error = at;
        }
        return found;
    }

    private static boolean begins(String digits, int low, int high) {
        for (int number = low; number <= high; number++) {
            if (Integer.toString(number).startsWith(digits)) {
                return true;
            }
        }
        return false;
    }
}
