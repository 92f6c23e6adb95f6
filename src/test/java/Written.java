import java.util.ArrayList;
import java.util.List;

/**
 * A run of calls on a new object, written as in the examples of the document: each call with the answer that is
 * due. Beside them it knows "add TEXT: k", which feeds a text and adds an operator from it, and "0..15 call: k",
 * which makes a call for each number, put for # in the call and in the answer.
 */
final class Written {
    /** A call with the answer that is due; null if any will do. */
    static final class Step {
        final int[] call;
        final Long due;
        /** Whether the answer that is due is an error code. */
        final boolean refused;

        Step(int[] call, Long due, boolean refused) {
            this.call = call;
            this.due = due;
            this.refused = refused;
        }
    }

    final String title;
    final List<Step> steps = new ArrayList<>();

    Written(String title, String run) {
        this.title = title;
        for (String item : run.split(";")) {
            if (!item.isBlank()) {
                readItem(item.trim());
            }
        }
    }

    List<int[]> calls() {
        List<int[]> calls = new ArrayList<>();
        for (Step step : steps) {
            calls.add(step.call);
        }
        return calls;
    }

    private void readItem(String item) {
        if (!item.matches("\\d+\\.\\..*")) {
            readCall(item);
            return;
        }
        int space = item.indexOf(' ');
        String[] range = item.substring(0, space).split("\\.\\.");
        for (int i = Integer.parseInt(range[0]); i <= Integer.parseInt(range[1]); i++) {
            readCall(item.substring(space + 1).replace("#+1", "" + (i + 1)).replace("#", "" + i));
        }
    }

    private void readCall(String item) {
        int colon = item.lastIndexOf(": ");
        if (colon < 0) {
            throw new IllegalArgumentException("no answer is given: " + item);
        }
        String call = item.substring(0, colon);
        String due = item.substring(colon + 2).trim();
        if (call.startsWith("feed of ")) {
            readText(call.substring("feed of ".length()));
            Step last = steps.remove(steps.size() - 1);
            addStep(last.call, due);
        } else if (call.startsWith("add ")) {
            readText(call.substring("add ".length()));
            addStep(Calls.of("operator"), due);
        } else {
            addStep(Calls.read(call), due);
        }
    }

    private void readText(String text) {
        for (char sign : text.toCharArray()) {
            steps.add(new Step(Calls.of("feed", sign), null, false));
        }
    }

    private void addStep(int[] call, String due) {
        switch (due) {
            case "NONE":
                steps.add(new Step(call, -1L, true));
                break;
            case "BAD":
                steps.add(new Step(call, -2L, true));
                break;
            case "STATE":
                steps.add(new Step(call, -3L, true));
                break;
            case "FULL":
                steps.add(new Step(call, -4L, true));
                break;
            case "NO":
                steps.add(new Step(call, Long.MIN_VALUE, true));
                break;
            default:
                long number = Long.parseLong(due);
                boolean wrongText = Calls.NAMES[call[0]].equals("operator") && number <= -10;
                boolean noValue = Calls.NAMES[call[0]].equals("value") && number == -1000;
                steps.add(new Step(call, number, wrongText || noValue));
                break;
        }
    }
}
