import java.util.ArrayList;
import java.util.List;
import java.util.Set;
import java.util.TreeSet;

/**
 * The document once more, as plainly as can be and without regard to room: objects and lists, and
 * copies that are made by making all calls again. It is what the class is compared with.
 */
final class Model {
    private static final class Row {
        int source;
        int number;
        int key;
        int arrival;
        int[] values;
        boolean live = true;
    }

    private static final class Source {
        int width;
        int window = 8;
        int probes;
        int matches;
        int duplicates;
        final List<Row> rows = new ArrayList<>();

        List<Row> live() {
            List<Row> live = new ArrayList<>();
            for (Row row : rows) {
                if (row.live) {
                    live.add(row);
                }
            }
            return live;
        }
    }

    private static final class Op {
        int number;
        ModelText text;
        boolean active = true;
        int evaluated;
        int passed;
        final List<Part> parked = new ArrayList<>();
        final List<Elem> probes = new ArrayList<>();

        boolean holds(Row[] rows) {
            int a = rows[text.source].values[text.value];
            switch (text.form) {
                case "A<n":
                    return a < text.n;
                case "A=n":
                    return a == text.n;
                case "A>n":
                    return a > text.n;
                case "A%m=r":
                    return ((a % text.m) + text.m) % text.m == text.n;
                case "A+B<n":
                    return a + rows[text.source].values[text.otherValue] < text.n;
                default:
                    break;
            }
            int c = rows[text.otherSource].values[text.otherValue];
            switch (text.form) {
                case "A=C":
                    return a == c;
                case "A~C,w":
                    return a - c <= text.n && c - a <= text.n;
                default:
                    return a < c;
            }
        }

        boolean covered(Row[] rows) {
            return rows[text.source] != null && (text.otherSource < 0 || rows[text.otherSource] != null);
        }
    }

    private static final class Part {
        final Row[] rows = new Row[3];
        int origin;
        final Set<Integer> passed = new TreeSet<>();

        Part with(Row row) {
            Part part = new Part();
            System.arraycopy(rows, 0, part.rows, 0, 3);
            part.rows[row.source] = row;
            part.origin = origin;
            part.passed.addAll(passed);
            return part;
        }

        boolean has(Row row) {
            return rows[row.source] == row;
        }
    }

    /** An element of the queue or a recorded probe; a partial in the queue has no operator. */
    private static final class Elem {
        final Part part;
        final int source;
        final Op op;

        Elem(Part part, int source, Op op) {
            this.part = part;
            this.source = source;
            this.op = op;
        }
    }

    private final List<Source> sources = new ArrayList<>();
    private final List<Op> ops = new ArrayList<>();
    private final List<Elem> queue = new ArrayList<>();
    private final List<Part> outputs = new ArrayList<>();
    private final List<Integer> events = new ArrayList<>();
    private String tape = "";
    private int policy;
    private int discipline;
    private int arrivals;
    private int steps;
    private int work;
    private List<int[]> log = new ArrayList<>();

    /** A model with its snapshot, which is the calls that led to it. */
    static final class Held {
        private Model model = new Model();
        private List<int[]> saved;

        long call(int[] call) {
            switch (Calls.NAMES[call[0]]) {
                case "image":
                    saved = new ArrayList<>(model.log);
                    return model.queue.size();
                case "undo":
                    if (saved == null) {
                        return -3;
                    }
                    model = again(saved);
                    return model.queue.size();
                default:
                    return model.logged(call);
            }
        }

        int ask(String name, int... arguments) {
            return (int) call(Calls.of(name, arguments));
        }
    }

    static Held after(List<int[]> calls) {
        Held held = new Held();
        for (int[] call : calls) {
            held.call(call);
        }
        return held;
    }

    private static Model again(List<int[]> calls) {
        Model model = new Model();
        for (int[] call : calls) {
            model.logged(call);
        }
        return model;
    }

    private long logged(int[] call) {
        if (call[0] <= 10 || Calls.NAMES[call[0]].equals("age")) {
            log.add(call);
            return change(call);
        }
        return ask(call);
    }

    private long change(int[] c) {
        switch (Calls.NAMES[c[0]]) {
            case "source":
                return source(c[1]);
            case "window":
                return window(c[1], c[2]);
            case "deliver":
                return deliver(c);
            case "drop":
                return dropCall(c[1], c[2]);
            case "feed":
                return feed(c[1]);
            case "operator":
                return operator();
            case "remove":
                return remove(c[1]);
            case "policy": {
                int before = policy;
                policy = c[1] < 0 || c[1] > 4 ? policy : c[1];
                return c[1] < 0 || c[1] > 4 ? -2 : before;
            }
            case "discipline": {
                int before = discipline;
                discipline = c[1] == 0 || c[1] == 1 ? c[1] : discipline;
                return c[1] == 0 || c[1] == 1 ? before : -2;
            }
            case "step": {
                int before = steps;
                for (int i = 0; c[1] <= 100 && i < c[1] && !queue.isEmpty(); i++) {
                    step();
                }
                return c[1] < 1 || c[1] > 100 ? -2 : steps - before;
            }
            case "run": {
                int before = work;
                while (c[1] <= 9999 && !queue.isEmpty() && work - before < c[1]) {
                    step();
                }
                return c[1] < 1 || c[1] > 9999 ? -2 : work - before;
            }
            default: {
                int sum = 0;
                for (Op op : ops) {
                    op.evaluated = op.evaluated >> 1;
                    op.passed = op.passed >> 1;
                    sum += op.evaluated;
                }
                return sum;
            }
        }
    }

    private int source(int width) {
        if (width < 1 || width > 3) {
            return -2;
        }
        if (sources.size() == 3) {
            return -4;
        }
        if (arrivals > 0) {
            return -3;
        }
        Source source = new Source();
        source.width = width;
        sources.add(source);
        return sources.size() - 1;
    }

    private boolean isSource(int s) {
        return s >= 0 && s < sources.size();
    }

    private int window(int s, int n) {
        if (!isSource(s)) {
            return -1;
        }
        if (n < 1 || n > 8) {
            return -2;
        }
        int before = sources.get(s).window;
        sources.get(s).window = n;
        shrink(s);
        return before;
    }

    private void shrink(int s) {
        while (sources.get(s).live().size() > sources.get(s).window) {
            Row oldest = null;
            for (Row row : sources.get(s).live()) {
                if (oldest == null || row.arrival < oldest.arrival) {
                    oldest = row;
                }
            }
            dropRow(oldest);
        }
    }

    private int deliver(int[] c) {
        if (!isSource(c[1])) {
            return -1;
        }
        Source source = sources.get(c[1]);
        if (c[2] < 0 || c[2] > 63) {
            return -2;
        }
        for (int v = 0; v < source.width; v++) {
            if (c[3 + v] < -999 || c[3 + v] > 999) {
                return -2;
            }
        }
        for (Row row : source.rows) {
            if (row.key == c[2]) {
                source.duplicates++;
                events.add(100 + c[1]);
                return 0;
            }
        }
        if (source.rows.size() == 16) {
            return -4;
        }
        Row row = new Row();
        row.source = c[1];
        row.number = source.rows.size();
        row.key = c[2];
        row.arrival = ++arrivals;
        row.values = new int[] {c[3], c[4], c[5]};
        source.rows.add(row);
        shrink(c[1]);
        Part part = new Part().with(row);
        part.origin = row.arrival;
        queue.add(new Elem(part, -1, null));
        return 1;
    }

    private int dropCall(int s, int r) {
        if (!isSource(s) || r < 0 || r >= sources.get(s).rows.size()) {
            return -1;
        }
        Row row = sources.get(s).rows.get(r);
        return row.live ? dropRow(row) : -3;
    }

    private int dropRow(Row row) {
        row.live = false;
        events.add(200 + row.source);
        queue.removeIf(e -> e.part.has(row));
        for (Op op : ops) {
            op.parked.removeIf(p -> p.has(row));
            op.probes.removeIf(e -> e.part.has(row));
        }
        int before = outputs.size();
        outputs.removeIf(p -> p.has(row));
        return before - outputs.size();
    }

    private int feed(int sign) {
        if (sign < 0 || sign > 127) {
            return -2;
        }
        if (tape.length() == 40) {
            return -4;
        }
        tape += (char) sign;
        return tape.length();
    }

    private int operator() {
        if (ops.size() == 12) {
            return -4;
        }
        int[] widths = new int[sources.size()];
        for (int s = 0; s < widths.length; s++) {
            widths[s] = sources.get(s).width;
        }
        ModelText text = ModelText.read(tape, widths);
        tape = "";
        if (text.error >= 0) {
            return -10 - text.error;
        }
        Op op = new Op();
        op.number = ops.size();
        op.text = text;
        ops.add(op);
        events.add(300 + op.number);
        for (Part part : outputs) {
            queue.add(new Elem(part, -1, null));
        }
        outputs.clear();
        return op.number;
    }

    private int remove(int k) {
        if (k < 0 || k >= ops.size()) {
            return -1;
        }
        Op op = ops.get(k);
        if (!op.active) {
            return -3;
        }
        op.active = false;
        events.add(400 + k);
        int before = queue.size();
        for (Part part : op.parked) {
            queue.add(new Elem(part, -1, null));
        }
        queue.addAll(op.probes);
        op.parked.clear();
        op.probes.clear();
        return queue.size() - before;
    }

    private Op chosen(Part part) {
        List<Op> ready = new ArrayList<>();
        for (Op op : ops) {
            if (op.active && !part.passed.contains(op.number) && op.covered(part.rows)) {
                ready.add(op);
            }
        }
        Op best = null;
        for (Op op : ready) {
            if (best == null || score(op) < score(best)) {
                best = op;
            }
        }
        return best;
    }

    /** Counters stay far below 2000 here, so different ranks are apart by more than a double's error. */
    private double score(Op op) {
        switch (policy) {
            case 0:
                return op.number;
            case 1:
                return op.text.cost;
            case 2:
                return op.text.cost * (op.evaluated + 1.0) / (op.evaluated - op.passed + 1.0);
            case 3:
                return -op.number;
            default:
                return op.evaluated;
        }
    }

    private Op guide(Part part, int s) {
        for (Op op : ops) {
            if (op.active && op.text.form.equals("A=C")) {
                boolean to = op.text.source == s && part.rows[op.text.otherSource] != null;
                boolean from = op.text.otherSource == s && part.rows[op.text.source] != null;
                if (to || from) {
                    return op;
                }
            }
        }
        return null;
    }

    private List<Row> older(Part part, int s, Op op, boolean wanted) {
        List<Row> found = new ArrayList<>();
        for (Row row : sources.get(s).live()) {
            if (row.arrival < part.origin && (op == null || op.holds(part.with(row).rows) == wanted)) {
                found.add(row);
            }
        }
        return found;
    }

    private int probed(Part part) {
        int chosen = -1;
        int fewest = 1000;
        for (int s = 0; s < sources.size(); s++) {
            if (part.rows[s] == null) {
                int candidates = older(part, s, guide(part, s), true).size();
                if (candidates < fewest) {
                    chosen = s;
                    fewest = candidates;
                }
            }
        }
        return chosen;
    }

    private void step() {
        Elem elem = queue.remove(discipline == 0 ? 0 : queue.size() - 1);
        Part part = elem.part;
        steps++;
        if (elem.op != null) {
            work++;
            for (Row row : older(part, elem.source, elem.op, false)) {
                queue.add(new Elem(part.with(row), -1, null));
                work++;
            }
            events.add(650 + elem.source);
            return;
        }
        Op op = chosen(part);
        int s = probed(part);
        if (op != null) {
            op.evaluated++;
            work += op.text.cost;
            if (op.holds(part.rows)) {
                op.passed++;
                part.passed.add(op.number);
                queue.add(elem);
            } else {
                op.parked.add(part);
                events.add(500 + op.number);
            }
        } else if (s >= 0) {
            probe(part, s);
        } else {
            outputs.add(part);
            events.add(700);
        }
    }

    private void probe(Part part, int s) {
        Op guide = guide(part, s);
        work++;
        sources.get(s).probes++;
        for (Row row : older(part, s, guide, true)) {
            Part longer = part.with(row);
            if (guide != null) {
                longer.passed.add(guide.number);
            }
            queue.add(new Elem(longer, -1, null));
            work++;
            sources.get(s).matches++;
        }
        if (guide != null) {
            guide.probes.add(new Elem(part, s, guide));
        }
        events.add(600 + s);
    }

    private long ask(int[] c) {
        switch (Calls.NAMES[c[0]]) {
            case "next":
                return next();
            case "pending":
                return pending(c[1], c[2]);
            case "told":
                return told(c[1], c[2]);
            case "of":
                return of(c[1], c[2]);
            case "value":
                return value(c[1], c[2], c[3]);
            case "output":
                return c[1] < 0 || c[1] >= outputs.size() || !isSource(c[2]) ? -1 : outputs.get(c[1]).rows[c[2]].number;
            case "where":
                return where(c[1]);
            case "answer":
                return answer(c[1]);
            case "rank":
                return rank(c[1], c[2]);
            case "would":
                return would(c[1], c[2]);
            case "best":
                return best();
            case "event":
                return c[1] < 0 || c[1] >= Math.min(32, events.size()) ? -1 : events.get(events.size() - 1 - c[1]);
            default:
                return count(c[1]);
        }
    }

    private int next() {
        if (queue.isEmpty()) {
            return -5;
        }
        Elem elem = queue.get(discipline == 0 ? 0 : queue.size() - 1);
        if (elem.op != null) {
            return 30 + elem.source;
        }
        Op op = chosen(elem.part);
        if (op != null) {
            return op.number;
        }
        return probed(elem.part) < 0 ? 40 : 20 + probed(elem.part);
    }

    private int pending(int i, int what) {
        if (i < 0 || i >= queue.size()) {
            return -1;
        }
        Elem elem = queue.get(i);
        int mask = 0;
        if (what == 0) {
            for (int s = 0; s < 3; s++) {
                mask += elem.part.rows[s] == null ? 0 : 1 << s;
            }
            return mask;
        }
        if (what == 1) {
            return elem.part.origin;
        }
        if (what == 2) {
            for (int k : elem.part.passed) {
                mask += 1 << k;
            }
            return mask;
        }
        if (what == 3) {
            return elem.op == null ? 0 : 1;
        }
        if (!isSource(what - 10)) {
            return -1;
        }
        Row row = elem.part.rows[what - 10];
        return row == null ? -5 : row.number;
    }

    private int told(int k, int what) {
        if (k < 0 || k >= ops.size() || what < 0 || what > 7) {
            return -1;
        }
        Op op = ops.get(k);
        int other = op.text.otherSource < 0 ? 0 : 1 << op.text.otherSource;
        int[] facts = {op.text.kind(), op.text.cost, op.active ? 1 : 0, op.evaluated, op.passed, op.parked.size(),
            op.probes.size(), 1 << op.text.source | other};
        return facts[what];
    }

    private int of(int s, int what) {
        if (!isSource(s) || what < 0 || what > 6) {
            return -1;
        }
        Source x = sources.get(s);
        int[] facts = {x.width, x.rows.size(), x.live().size(), x.window, x.probes, x.matches, x.duplicates};
        return facts[what];
    }

    private int value(int s, int r, int what) {
        if (!isSource(s) || r < 0 || r >= sources.get(s).rows.size()) {
            return -1000;
        }
        Row row = sources.get(s).rows.get(r);
        if (what >= 0 && what < sources.get(s).width) {
            return row.values[what];
        }
        return what == 10 ? row.key : what == 11 ? row.arrival : what == 12 ? (row.live ? 1 : 0) : -1000;
    }

    /** All combinations of live rows, in ascending order of their codes. */
    private List<Row[]> combinations() {
        List<Row[]> all = new ArrayList<>();
        if (sources.isEmpty()) {
            return all;
        }
        all.add(new Row[3]);
        for (Source source : sources) {
            List<Row[]> longer = new ArrayList<>();
            for (Row[] rows : all) {
                for (Row row : source.live()) {
                    Row[] more = rows.clone();
                    more[row.source] = row;
                    longer.add(more);
                }
            }
            all = longer;
        }
        return all;
    }

    private int code(Row[] rows) {
        int code = 0;
        for (int s = 0; s < sources.size(); s++) {
            code = code * 100 + rows[s].number;
        }
        return code;
    }

    private boolean isIn(Part part, Row[] rows) {
        int last = 0;
        for (int s = 0; s < sources.size(); s++) {
            last = Math.max(last, rows[s].arrival);
            if (part.rows[s] != null && part.rows[s] != rows[s]) {
                return false;
            }
        }
        return part.origin == last;
    }

    /** Fails if a combination is at no place or at several ones. */
    private int where(int code) {
        for (Row[] rows : combinations()) {
            if (code(rows) == code) {
                Set<Integer> places = places(rows);
                if (places.size() != 1) {
                    throw new IllegalStateException("code " + code + " is at the places " + places);
                }
                return places.iterator().next();
            }
        }
        return -1;
    }

    private Set<Integer> places(Row[] rows) {
        Set<Integer> places = new TreeSet<>();
        for (Part part : outputs) {
            if (isIn(part, rows)) {
                places.add(1);
            }
        }
        for (Elem elem : queue) {
            if (isIn(elem.part, rows) && (elem.op == null || !elem.op.holds(rows))) {
                places.add(2);
            }
        }
        for (Op op : ops) {
            for (Part part : op.parked) {
                if (isIn(part, rows)) {
                    places.add(10 + op.number);
                }
            }
            for (Elem elem : op.probes) {
                if (isIn(elem.part, rows) && !op.holds(rows)) {
                    places.add(10 + op.number);
                }
            }
        }
        return places;
    }

    private int answer(int what) {
        Set<Integer> codes = new TreeSet<>();
        for (Row[] rows : combinations()) {
            boolean holds = true;
            for (Op op : ops) {
                holds &= !op.active || op.holds(rows);
            }
            if (holds) {
                codes.add(code(rows));
            }
        }
        List<Integer> put = new ArrayList<>();
        for (Part part : outputs) {
            put.add(code(part.rows));
        }
        switch (what) {
            case 0:
                return codes.size();
            case 1:
                return codes.isEmpty() ? -5 : codes.iterator().next();
            case 2:
                return queue.isEmpty() && put.size() == codes.size() && codes.containsAll(put) ? 1 : 0;
            default:
                return -1;
        }
    }

    private long rank(int k, int part) {
        if (k < 0 || k >= ops.size() || part < 0 || part > 1) {
            return Long.MIN_VALUE;
        }
        Op op = ops.get(k);
        long n = op.text.cost * (op.evaluated + 1L);
        long d = op.evaluated - op.passed + 1L;
        long divisor = Math.min(n, d);
        while (n % divisor != 0 || d % divisor != 0) {
            divisor--;
        }
        return (part == 0 ? n : d) / divisor;
    }

    private int would(int p, int what) {
        if (what < 0 || what > 2) {
            return -1;
        }
        if (p < 0 || p > 4) {
            return -2;
        }
        Model copy = again(log);
        copy.policy = p;
        while (!copy.queue.isEmpty()) {
            copy.step();
        }
        return what == 0 ? copy.work - work : what == 1 ? copy.steps - steps : copy.outputs.size();
    }

    private int best() {
        int best = 0;
        int least = would(0, 0);
        for (int p = 1; p < 5; p++) {
            int costs = would(p, 0);
            if (costs < least) {
                best = p;
                least = costs;
            }
        }
        return best;
    }

    private int count(int what) {
        int active = 0;
        for (Op op : ops) {
            active += op.active ? 1 : 0;
        }
        int[] facts = {sources.size(), ops.size(), queue.size(), outputs.size(), tape.length(), policy, discipline,
            active, arrivals, steps, work, Math.min(32, events.size())};
        return what < 0 || what >= facts.length ? -1 : facts[what];
    }
}
