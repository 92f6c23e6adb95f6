import java.io.IOException;
import java.nio.file.Files;
import java.nio.file.Path;
import java.util.ArrayList;
import java.util.List;

/**
 * The sentences of the document, each with runs of calls of its own. A refused call must leave everything as it was,
 * and so must a question.
 */
public final class DocumentTest {
    private static final Path DOCUMENT = Path.of("../shared/DOC.md");
    private static final Check check = new Check("document");

    public static void main(String[] args) throws IOException {
        Runs runs = new Runs();
        checkSentences(runs);
        List<int[]> disturbances = disturbances();
        for (Written run : runs.all) {
            checkAnswers(run);
            checkRefusals(run);
            checkQuestions(run);
            checkSimulations(run);
            checkSnapshot(run, disturbances);
        }
        check.finish();
    }

    private static void checkSentences(Runs runs) throws IOException {
        String document = Files.exists(DOCUMENT) ? squeezed(Files.readString(DOCUMENT)) : null;
        for (String sentence : runs.sentences) {
            check.due("a run for: " + sentence, runs.sentencesWithRuns.contains(sentence) ? 1 : 0, 1);
            if (document != null) {
                check.due("the document says: " + sentence, document.contains(squeezed(sentence)) ? 1 : 0, 1);
            }
        }
        for (int promise = 1; promise <= 28; promise++) {
            check.due("a part for promise " + promise, runs.parts.contains("Promise " + promise) ? 1 : 0, 1);
        }
        if (document != null) {
            String rest = untested(Files.readString(DOCUMENT), runs.written);
            check.due("words of the document without a run: " + rest, rest.length(), 0);
        }
    }

    /** What the document says beside heads and signatures, without all that is written with the runs. */
    private static String untested(String document, List<String> written) {
        String rest = squeezed(document.replaceAll("(?s)```.*?```", "").replaceAll("(?m)^#.*$|^`[^`]*`$", ""));
        List<String> longestFirst = new ArrayList<>(written);
        longestFirst.sort((one, other) -> other.length() - one.length());
        for (String words : longestFirst) {
            rest = rest.replace(squeezed(words), " ");
        }
        return rest.replaceAll("[ -]+", " ").trim();
    }

    private static String squeezed(String text) {
        return text.replace("`", "").replaceAll("\\s+", " ");
    }

    private static void checkAnswers(Written run) {
        check.due(run.title + ": at most 512 calls", run.steps.size() <= Calls.MOST ? 1 : 0, 1);
        AdaptiveQueryExecutor x = new AdaptiveQueryExecutor();
        Model.Held model = new Model.Held();
        for (int i = 0; i < run.steps.size(); i++) {
            Written.Step step = run.steps.get(i);
            String call = run.title + ": call " + i + ", " + Calls.text(step.call);
            long got = Calls.make(x, step.call);
            long modelled = model.call(step.call);
            if (step.due != null) {
                check.due(call, got, step.due);
                check.due("the model of " + call, modelled, step.due);
            }
        }
    }

    /** What the questions answer before a refused call, they answer behind it. */
    private static void checkRefusals(Written run) {
        List<int[]> before = new ArrayList<>();
        for (Written.Step step : run.steps) {
            if (step.refused && before.size() < Calls.MOST - 100) {
                checkRefusal(run.title, before, step);
            }
            before.add(step.call);
        }
    }

    private static void checkRefusal(String title, List<int[]> before, Written.Step step) {
        List<int[]> behind = new ArrayList<>(before);
        behind.add(step.call);
        boolean wrongText = Calls.NAMES[step.call[0]].equals("operator") && step.due <= -10;
        String difference = Twins.difference(before, behind, !wrongText);
        check.due(title + ": " + Calls.text(step.call) + " is refused, but before and behind it " + difference,
            difference == null ? 0 : 1, 0);
        if (wrongText) {
            check.due(title + ": the tape behind a wrong text", Twins.after(behind).count(4), 0);
        }
    }

    /** A run without its questions leads to the same state. */
    private static void checkQuestions(Written run) {
        List<int[]> changes = new ArrayList<>();
        for (int[] call : run.calls()) {
            if (!Calls.isQuestion(call)) {
                changes.add(call);
            }
        }
        if (run.calls().size() < Calls.MOST - 100) {
            String difference = Twins.difference(run.calls(), changes, true);
            check.due(run.title + ": with its questions and without them " + difference, difference == null ? 0 : 1, 0);
        }
    }

    /** Behind a run, what would be done with a policy is what is done. */
    private static void checkSimulations(Written run) {
        for (int p = 0; p < 5 && run.calls().size() < Calls.MOST - 100; p++) {
            AdaptiveQueryExecutor x = Twins.after(run.calls());
            AdaptiveQueryExecutor y = Twins.after(run.calls());
            int work = y.count(10);
            int steps = y.count(9);
            y.policy(p);
            for (int i = 0; i < 50 && y.count(2) > 0; i++) {
                y.run(9999);
            }
            check.due(run.title + ": would(" + p + ", 0)", x.would(p, 0), y.count(10) - work);
            check.due(run.title + ": would(" + p + ", 1)", x.would(p, 1), y.count(9) - steps);
            check.due(run.title + ": would(" + p + ", 2)", x.would(p, 2), y.count(3));
            check.due(run.title + ": the outputs are the answer", y.answer(2), 1);
        }
    }

    /** Calls that change all that can be changed. */
    private static List<int[]> disturbances() {
        List<int[]> calls = new ArrayList<>();
        for (String call : new String[] {"feed(120)", "operator()", "feed(49)", "feed(58)", "feed(48)", "feed(46)",
            "feed(48)", "feed(62)", "feed(50)", "operator()", "source(3)", "run(9999)", "remove(0)", "step(3)",
            "deliver(0, 60, 3, 3, 3)", "deliver(0, 60, 3, 3, 3)", "deliver(1, 61, 9, 9, 9)", "window(1, 3)",
            "policy(3)", "discipline(1)", "step(2)", "run(9999)", "age()", "window(0, 2)", "drop(0, 0)", "drop(2, 0)",
            "remove(1)", "discipline(0)", "step(4)", "policy(2)", "feed(55)"}) {
            calls.add(Calls.read(call));
        }
        return calls;
    }

    /** Whatever is done behind a snapshot, undo brings all back, and again a second time. */
    private static void checkSnapshot(Written run, List<int[]> disturbances) {
        List<int[]> before = run.calls();
        before.add(Calls.of("image"));
        List<int[]> behind = new ArrayList<>(before);
        for (int i = 0; i < 2 && behind.size() < Calls.MOST - 200; i++) {
            behind.addAll(disturbances);
            behind.add(Calls.of("undo"));
            String difference = Twins.difference(before, behind, true);
            check.due(run.title + ": before all that is undone and behind it " + difference, difference == null ? 0 : 1,
                0);
        }
    }
}
