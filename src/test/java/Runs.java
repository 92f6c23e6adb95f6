import java.io.IOException;
import java.io.UncheckedIOException;
import java.nio.file.Files;
import java.nio.file.Path;
import java.util.ArrayList;
import java.util.List;
import java.util.Set;
import java.util.TreeSet;
import java.util.stream.Stream;

/**
 * The runs of calls that are written in the files under src/test/runs: "# " begins a part, "> " tells a sentence of
 * the document, "- " begins a run for it, and "= " sets words of the document aside that need no run.
 */
final class Runs {
    private static final Path FILES = Path.of("src/test/runs");

    final Set<String> parts = new TreeSet<>();
    final List<String> sentences = new ArrayList<>();
    final Set<String> sentencesWithRuns = new TreeSet<>();
    /** All that stands in the files: sentences, words set aside, and runs. */
    final List<String> written = new ArrayList<>();
    final List<Written> all = new ArrayList<>();
    private String part = "";
    private String sentence = "";
    private int number;
    private StringBuilder run;

    Runs() {
        try (Stream<Path> files = Files.list(FILES)) {
            for (Path file : files.sorted().toList()) {
                Files.readAllLines(file).forEach(this::readLine);
                endRun();
            }
        } catch (IOException problem) {
            throw new UncheckedIOException(problem);
        }
    }

    private void readLine(String line) {
        if (line.startsWith("# ")) {
            endRun();
            part = line.substring(2);
            parts.add(part.split(":")[0]);
        } else if (line.startsWith("> ")) {
            endRun();
            sentence = line.substring(2);
            sentences.add(sentence);
            written.add(sentence);
            number = 0;
        } else if (line.startsWith("= ")) {
            written.add(line.substring(2));
        } else if (line.startsWith("- ")) {
            endRun();
            run = new StringBuilder(line.substring(2));
        } else if (run != null) {
            run.append(' ').append(line.trim());
        }
    }

    private void endRun() {
        if (run == null) {
            return;
        }
        number++;
        sentencesWithRuns.add(sentence);
        written.add(run.toString().trim());
        String begin = sentence.substring(0, Math.min(sentence.length(), 60));
        all.add(new Written(part + ", \"" + begin + "\", run " + number, run.toString()));
        run = null;
    }
}
