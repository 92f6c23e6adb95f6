/**
 * Joins the rows of up to three sources, one step at a time, by a routing policy that can be
 * changed, as can the operators, while results are on their way. Not thread-safe.
 */
public final class AdaptiveQueryExecutor {

    /** An index or a selector is invalid. */
    public static final int NONE = -1;
    /** A value is out of range. */
    public static final int BAD = -2;
    /** The state forbids the call. */
    public static final int STATE = -3;
    /** A limit is reached. */
    public static final int FULL = -4;
    /** The error value of rank. */
    public static final long NO = Long.MIN_VALUE;

    private static final int ABSENT = -5;
    private static final int NO_VALUE = -1000;
    private static final int WRONG_TEXT = -10;

    private static final int MAX_SOURCES = 3;
    private static final int MAX_WIDTH = 3;
    private static final int MAX_WINDOW = 8;
    private static final int MAX_ROWS = 16;
    private static final int MAX_KEY = 63;
    private static final int MAX_VALUE = 999;
    private static final int MAX_OPERATORS = 12;
    private static final int MAX_TAPE = 40;
    private static final int MAX_SIGN = 127;
    private static final int MAX_POLICY = 4;
    private static final int MAX_STEPS = 100;
    private static final int MAX_BUDGET = 9999;
    private static final int KEPT_EVENTS = 32;

    private static final int COMPARE = 0;
    private static final int REMAINDER = 1;
    private static final int TOTAL = 2;
    private static final int EQUAL = 3;
    private static final int BAND = 4;
    private static final int BELOW = 5;

    private static final int DUPLICATE_EVENT = 100;
    private static final int DROPPED_EVENT = 200;
    private static final int ADDED_EVENT = 300;
    private static final int REMOVED_EVENT = 400;
    private static final int PARKED_EVENT = 500;
    private static final int PROBED_EVENT = 600;
    private static final int REPEATED_EVENT = 650;
    private static final int OUTPUT_EVENT = 700;

    private static final int NEXT_PROBE = 20;
    private static final int NEXT_REPEATED = 30;
    private static final int NEXT_OUTPUT = 40;

    /** Far above the steps that empty any queue: some 700 partials pass at most 12 operators each. */
    private static final int STEP_BOUND = 1000000;

    private final State state;
    private State saved;
    private State trial;

    public AdaptiveQueryExecutor() {
        state = new State();
        saved = null;
        trial = null;
    }

    // ---- sources and rows

    public int source(int width) {
        if (width < 1 || width > MAX_WIDTH) {
            return BAD;
        }
        if (state.sourceCount >= MAX_SOURCES) {
            return FULL;
        }
        if (state.arrivals > 0) {
            return STATE;
        }
        return state.addSource(width);
    }

    public int window(int source, int n) {
        if (!state.hasSource(source)) {
            return NONE;
        }
        if (n < 1 || n > MAX_WINDOW) {
            return BAD;
        }
        Source changed = state.sources[source];
        int previous = changed.window;
        changed.window = n;
        state.keepWindow(source);
        return previous;
    }

    public int deliver(int source, int key, int a, int b, int c) {
        if (!state.hasSource(source)) {
            return NONE;
        }
        Source target = state.sources[source];
        if (key < 0 || key > MAX_KEY || !fits(a)
                || (target.width > 1 && !fits(b)) || (target.width > 2 && !fits(c))) {
            return BAD;
        }
        if (target.hasKey(key)) {
            target.duplicates++;
            state.events.add(DUPLICATE_EVENT + source);
            return 0;
        }
        if (target.rows >= MAX_ROWS) {
            return FULL;
        }
        state.arrivals++;
        int row = target.addRow(key, state.arrivals);
        target.setValues(row, a, b, c);
        state.keepWindow(source);
        state.queue.add(Element.single(source, row, state.arrivals));
        return 1;
    }

    private static boolean fits(int number) {
        return number >= -MAX_VALUE && number <= MAX_VALUE;
    }

    public int drop(int source, int row) {
        if (!state.hasSource(source) || !state.sources[source].hasRow(row)) {
            return NONE;
        }
        if (!state.sources[source].isLive(row)) {
            return STATE;
        }
        return state.dropRow(source, row);
    }

    // ---- operators

    public int feed(int sign) {
        if (sign < 0 || sign > MAX_SIGN) {
            return BAD;
        }
        if (state.tape.length >= MAX_TAPE) {
            return FULL;
        }
        return state.tape.append(sign);
    }

    public int operator() {
        if (state.operatorCount >= MAX_OPERATORS) {
            return FULL;
        }
        Operator read = state.operators[state.operatorCount];
        TextReader reader = new TextReader(state);
        boolean right = reader.readOperator(read);
        state.tape.length = 0;
        if (!right) {
            return WRONG_TEXT - reader.at;
        }
        return state.addOperator();
    }

    public int remove(int operator) {
        if (!state.hasOperator(operator)) {
            return NONE;
        }
        if (!state.operators[operator].active) {
            return STATE;
        }
        return state.removeOperator(operator);
    }

    // ---- steps

    public int policy(int p) {
        if (p < 0 || p > MAX_POLICY) {
            return BAD;
        }
        int previous = state.policy;
        state.policy = p;
        return previous;
    }

    public int discipline(int d) {
        if (d < 0 || d > 1) {
            return BAD;
        }
        int previous = state.discipline;
        state.discipline = d;
        return previous;
    }

    public int step(int n) {
        if (n < 1 || n > MAX_STEPS) {
            return BAD;
        }
        int before = state.steps;
        for (int i = 0; i < n && state.queue.size > 0; i++) {
            state.takeStep();
        }
        return state.steps - before;
    }

    public int run(int budget) {
        if (budget < 1 || budget > MAX_BUDGET) {
            return BAD;
        }
        int before = state.work;
        for (int i = 0; i < STEP_BOUND && state.queue.size > 0 && state.work - before < budget; i++) {
            state.takeStep();
        }
        return state.work - before;
    }

    public int next() {
        if (state.queue.size == 0) {
            return ABSENT;
        }
        long element = state.queue.get(state.nextIndex());
        if (Element.isRepeated(element)) {
            return NEXT_REPEATED + Element.sourceOf(element);
        }
        int operator = state.chooseOperator(element);
        if (operator >= 0) {
            return operator;
        }
        int source = state.chooseSource(element);
        return source >= 0 ? NEXT_PROBE + source : NEXT_OUTPUT;
    }

    // ---- questions

    public int pending(int i, int what) {
        if (i < 0 || i >= state.queue.size) {
            return NONE;
        }
        long element = state.queue.get(i);
        switch (what) {
            case 0:
                return Element.covered(element);
            case 1:
                return Element.origin(element);
            case 2:
                return Element.passed(element);
            case 3:
                return asInt(Element.isRepeated(element));
            default:
                return pendingRow(element, what);
        }
    }

    private int pendingRow(long element, int what) {
        if (what < 10 || !state.hasSource(what - 10)) {
            return NONE;
        }
        int row = Element.rowOf(element, what - 10);
        return row >= 0 ? row : ABSENT;
    }

    public int told(int operator, int what) {
        if (!state.hasOperator(operator)) {
            return NONE;
        }
        Operator asked = state.operators[operator];
        switch (what) {
            case 0:
                return asked.kind;
            case 1:
                return asked.cost;
            case 2:
                return asInt(asked.active);
            case 3:
                return asked.evaluated;
            case 4:
                return asked.passed;
            case 5:
                return state.parked.countAt(operator);
            case 6:
                return state.probes.countAt(operator);
            case 7:
                return asked.sources();
            default:
                return NONE;
        }
    }

    public int of(int source, int what) {
        if (!state.hasSource(source)) {
            return NONE;
        }
        Source asked = state.sources[source];
        switch (what) {
            case 0:
                return asked.width;
            case 1:
                return asked.rows;
            case 2:
                return Integer.bitCount(asked.live);
            case 3:
                return asked.window;
            case 4:
                return asked.probes;
            case 5:
                return asked.matches;
            case 6:
                return asked.duplicates;
            default:
                return NONE;
        }
    }

    public int value(int source, int row, int what) {
        if (!state.hasSource(source) || !state.sources[source].hasRow(row)) {
            return NO_VALUE;
        }
        Source asked = state.sources[source];
        if (what >= 0 && what < asked.width) {
            return asked.valueAt(row, what);
        }
        switch (what) {
            case 10:
                return asked.keyAt(row);
            case 11:
                return asked.arrivalAt(row);
            case 12:
                return asInt(asked.isLive(row));
            default:
                return NO_VALUE;
        }
    }

    public int output(int i, int source) {
        if (i < 0 || i >= state.outputs.size || !state.hasSource(source)) {
            return NONE;
        }
        return Element.rowOf(state.outputs.get(i), source);
    }

    public int where(int code) {
        long combination = state.combinationOf(code);
        return combination == Element.NOTHING ? NONE : state.placeOf(combination);
    }

    public int answer(int what) {
        if (what < 0 || what > 2) {
            return NONE;
        }
        Tally tally = new Tally();
        if (state.sourceCount > 0) {
            state.tallyFrom(0, Element.NOTHING, 0, tally);
        }
        switch (what) {
            case 0:
                return tally.combinations;
            case 1:
                return tally.combinations > 0 ? tally.leastCode : ABSENT;
            default:
                return asInt(state.isSettledOn(tally.combinations));
        }
    }

    public long rank(int operator, int part) {
        if (!state.hasOperator(operator) || part < 0 || part > 1) {
            return NO;
        }
        long numerator = state.operators[operator].rankNumerator();
        long denominator = state.operators[operator].rankDenominator();
        long divisor = commonDivisor(numerator, denominator);
        if (divisor <= 0) {
            return NO;
        }
        return (part == 0 ? numerator : denominator) / divisor;
    }

    private static long commonDivisor(long a, long b) {
        long greater = a;
        long smaller = b;
        for (int i = 0; i < 100 && smaller != 0; i++) {
            long rest = greater % smaller;
            greater = smaller;
            smaller = rest;
        }
        return greater;
    }

    // ---- simulation

    public int would(int p, int what) {
        if (what < 0 || what > 2) {
            return NONE;
        }
        if (p < 0 || p > MAX_POLICY) {
            return BAD;
        }
        State end = simulated(p);
        switch (what) {
            case 0:
                return end.work - state.work;
            case 1:
                return end.steps - state.steps;
            default:
                return end.outputs.size;
        }
    }

    public int best() {
        int best = 0;
        int least = simulated(0).work;
        for (int p = 1; p <= MAX_POLICY; p++) {
            int work = simulated(p).work;
            if (work < least) {
                best = p;
                least = work;
            }
        }
        return best;
    }

    /** The state in the end of a simulation; it is overwritten by the next simulation. */
    private State simulated(int p) {
        if (trial == null) {
            trial = new State();
        }
        trial.copyFrom(state);
        trial.policy = p;
        for (int i = 0; i < STEP_BOUND && trial.queue.size > 0; i++) {
            trial.takeStep();
        }
        return trial;
    }

    // ---- upkeep

    public int age() {
        int sum = 0;
        for (int k = 0; k < state.operatorCount && k < MAX_OPERATORS; k++) {
            Operator aged = state.operators[k];
            aged.evaluated /= 2;
            aged.passed /= 2;
            sum += aged.evaluated;
        }
        return sum;
    }

    public int event(int i) {
        if (i < 0 || i >= state.events.kept()) {
            return NONE;
        }
        return state.events.get(i);
    }

    public int image() {
        if (saved == null) {
            saved = new State();
        }
        saved.copyFrom(state);
        return state.queue.size;
    }

    public int undo() {
        if (saved == null) {
            return STATE;
        }
        state.copyFrom(saved);
        return state.queue.size;
    }

    public int count(int what) {
        switch (what) {
            case 0:
                return state.sourceCount;
            case 1:
                return state.operatorCount;
            case 2:
                return state.queue.size;
            case 3:
                return state.outputs.size;
            case 4:
                return state.tape.length;
            case 5:
                return state.policy;
            case 6:
                return state.discipline;
            case 7:
                return state.activeOperators();
            case 8:
                return state.arrivals;
            case 9:
                return state.steps;
            case 10:
                return state.work;
            case 11:
                return state.events.kept();
            default:
                return NONE;
        }
    }

    private static int asInt(boolean truth) {
        return truth ? 1 : 0;
    }

    /**
     * A partial or a probe of one, packed into a long: simulations make many thousands of them,
     * and a long takes no room of its own. Rows are packed as row + 1, so that 0 is no row.
     */
    private static final class Element {
        static final long NOTHING = 0;

        private static final int ROW_BITS = 5;
        private static final long ROW_MASK = 31;
        private static final int ORIGIN_AT = 15;
        private static final long ORIGIN_MASK = 63;
        private static final int PASSED_AT = 21;
        private static final long PASSED_MASK = 4095;
        private static final int OPERATOR_AT = 33;
        private static final long OPERATOR_MASK = 15;
        private static final int SOURCE_AT = 37;
        private static final long SOURCE_MASK = 3;
        private static final int REPEATED_AT = 39;
        private static final long PARTIAL_MASK = (1L << OPERATOR_AT) - 1;

        private Element() {
        }

        static long single(int source, int row, int origin) {
            return withOrigin(withRow(NOTHING, source, row), origin);
        }

        static long withRow(long element, int source, int row) {
            return element | ((row + 1) & ROW_MASK) << (source * ROW_BITS);
        }

        static long withOrigin(long element, int origin) {
            return element | (origin & ORIGIN_MASK) << ORIGIN_AT;
        }

        static long withPassed(long element, int operator) {
            return element | 1L << (PASSED_AT + operator);
        }

        static long parkedAt(long partial, int operator) {
            return partial | (operator & OPERATOR_MASK) << OPERATOR_AT;
        }

        static long probeAt(long partial, int operator, int source) {
            return parkedAt(partial, operator) | (source & SOURCE_MASK) << SOURCE_AT;
        }

        static long repeated(long probe) {
            return probe | 1L << REPEATED_AT;
        }

        static long partialOf(long element) {
            return element & PARTIAL_MASK;
        }

        /** The row of a source, -1 if the source is not covered. */
        static int rowOf(long element, int source) {
            return (int) (element >> (source * ROW_BITS) & ROW_MASK) - 1;
        }

        static int covered(long element) {
            int covered = 0;
            for (int s = 0; s < MAX_SOURCES; s++) {
                if ((element >> (s * ROW_BITS) & ROW_MASK) != 0) {
                    covered |= 1 << s;
                }
            }
            return covered;
        }

        static int origin(long element) {
            return (int) (element >> ORIGIN_AT & ORIGIN_MASK);
        }

        static int passed(long element) {
            return (int) (element >> PASSED_AT & PASSED_MASK);
        }

        static int operatorOf(long element) {
            return (int) (element >> OPERATOR_AT & OPERATOR_MASK);
        }

        static int sourceOf(long element) {
            return (int) (element >> SOURCE_AT & SOURCE_MASK);
        }

        static boolean isRepeated(long element) {
            return (element >> REPEATED_AT & 1) == 1;
        }

        /** Whether the combination has all rows of the element, and is formed from the same row. */
        static boolean isPartOf(long element, long combination) {
            if (origin(element) != origin(combination)) {
                return false;
            }
            for (int s = 0; s < MAX_SOURCES; s++) {
                int row = rowOf(element, s);
                if (row >= 0 && row != rowOf(combination, s)) {
                    return false;
                }
            }
            return true;
        }
    }

    /**
     * Elements in their order, in a ring whose length is a power of two, so that any index can be
     * masked into it. It grows on demand, since most objects never hold many elements.
     */
    private static final class Ledger {
        private static final int FIRST_LENGTH = 16;
        /** At most 8 rows of each source are live: 512 triples, 192 pairs and 24 single rows. */
        private static final int LAST_LENGTH = 1024;

        private long[] ring;
        private int head;
        private int size;

        Ledger() {
            ring = new long[FIRST_LENGTH];
            head = 0;
            size = 0;
        }

        long get(int i) {
            return i >= 0 && i < size ? ring[(head + i) & (ring.length - 1)] : Element.NOTHING;
        }

        void add(long element) {
            if (size >= ring.length) {
                if (ring.length >= LAST_LENGTH) {
                    return;
                }
                grow();
            }
            ring[(head + size) & (ring.length - 1)] = element;
            size++;
        }

        private void grow() {
            long[] longer = new long[ring.length * 2];
            for (int i = 0; i < size && i < longer.length; i++) {
                longer[i] = ring[(head + i) & (ring.length - 1)];
            }
            ring = longer;
            head = 0;
        }

        long takeFirst() {
            long first = get(0);
            if (size > 0) {
                head = (head + 1) & (ring.length - 1);
                size--;
            }
            return first;
        }

        long takeLast() {
            long last = get(size - 1);
            if (size > 0) {
                size--;
            }
            return last;
        }

        /** Removes the elements that have a row, and tells how many they were. */
        int forgetRow(int source, int row) {
            int kept = 0;
            for (int i = 0; i < size; i++) {
                long element = get(i);
                if (Element.rowOf(element, source) != row) {
                    put(kept, element);
                    kept++;
                }
            }
            int forgotten = size - kept;
            size = kept;
            return forgotten;
        }

        private void put(int i, long element) {
            ring[(head + i) & (ring.length - 1)] = element;
        }

        int countAt(int operator) {
            int found = 0;
            for (int i = 0; i < size; i++) {
                if (Element.operatorOf(get(i)) == operator) {
                    found++;
                }
            }
            return found;
        }

        /** Moves the elements of an operator to a queue, as partials or as repeated probes. */
        int release(int operator, boolean asProbes, Ledger queue) {
            int kept = 0;
            for (int i = 0; i < size; i++) {
                long element = get(i);
                if (Element.operatorOf(element) != operator) {
                    put(kept, element);
                    kept++;
                } else {
                    queue.add(asProbes ? Element.repeated(element) : Element.partialOf(element));
                }
            }
            int released = size - kept;
            size = kept;
            return released;
        }

        void moveAllTo(Ledger queue) {
            for (int i = 0; i < size; i++) {
                queue.add(get(i));
            }
            size = 0;
        }

        void copyFrom(Ledger other) {
            if (ring.length < other.size) {
                ring = new long[other.ring.length];
            }
            for (int i = 0; i < other.size && i < ring.length; i++) {
                ring[i] = other.get(i);
            }
            head = 0;
            size = other.size;
        }
    }

    /** A source with its rows; since rows are numbered by arrival, lower rows are older. */
    private static final class Source {
        private int width;
        private int window;
        private int rows;
        private int live;
        private int probes;
        private int matches;
        private int duplicates;
        private final int[] keys;
        private final int[] arrivals;
        private final int[] values;

        Source() {
            width = 0;
            window = MAX_WINDOW;
            keys = new int[MAX_ROWS];
            arrivals = new int[MAX_ROWS];
            values = new int[MAX_ROWS * MAX_WIDTH];
        }

        boolean hasRow(int row) {
            return row >= 0 && row < rows && row < MAX_ROWS;
        }

        boolean isLive(int row) {
            return hasRow(row) && (live >> row & 1) == 1;
        }

        boolean hasKey(int key) {
            for (int row = 0; row < rows && row < MAX_ROWS; row++) {
                if (keys[row] == key) {
                    return true;
                }
            }
            return false;
        }

        int addRow(int key, int arrival) {
            if (rows < 0 || rows >= MAX_ROWS) {
                return NONE;
            }
            int row = rows;
            keys[row] = key;
            arrivals[row] = arrival;
            live |= 1 << row;
            rows++;
            return row;
        }

        void setValues(int row, int a, int b, int c) {
            if (hasRow(row)) {
                values[row * MAX_WIDTH] = a;
                values[row * MAX_WIDTH + 1] = b;
                values[row * MAX_WIDTH + 2] = c;
            }
        }

        int keyAt(int row) {
            return hasRow(row) ? keys[row] : NO_VALUE;
        }

        int arrivalAt(int row) {
            return hasRow(row) ? arrivals[row] : 0;
        }

        int valueAt(int row, int number) {
            if (row < 0 || row >= MAX_ROWS || number < 0 || number >= MAX_WIDTH) {
                return NO_VALUE;
            }
            return values[row * MAX_WIDTH + number];
        }

        /** The live rows that arrived before an arrival number, as a mask. */
        int liveBefore(int arrival) {
            int found = 0;
            for (int row = 0; row < rows && row < MAX_ROWS; row++) {
                if ((live >> row & 1) == 1 && arrivals[row] < arrival) {
                    found |= 1 << row;
                }
            }
            return found;
        }

        void copyFrom(Source other) {
            width = other.width;
            window = other.window;
            rows = other.rows;
            live = other.live;
            probes = other.probes;
            matches = other.matches;
            duplicates = other.duplicates;
            System.arraycopy(other.keys, 0, keys, 0, MAX_ROWS);
            System.arraycopy(other.arrivals, 0, arrivals, 0, MAX_ROWS);
            System.arraycopy(other.values, 0, values, 0, MAX_ROWS * MAX_WIDTH);
        }
    }

    /**
     * An operator. Each has two references, left and right, so that all kinds are evaluated alike;
     * where a condition has only one, the right one is the left one again.
     */
    private static final class Operator {
        private int kind;
        private int cost;
        private boolean active;
        private int evaluated;
        private int passed;
        private int leftSource;
        private int leftValue;
        private int rightSource;
        private int rightValue;
        /** Of a comparison: -1 less, 0 equal, 1 greater. */
        private int relation;
        /** The number n, the modulus m or the width w of the band. */
        private int number;
        private int remainder;

        Operator() {
            active = false;
        }

        void begin() {
            active = true;
            evaluated = 0;
            passed = 0;
        }

        int sources() {
            return 1 << leftSource | 1 << rightSource;
        }

        boolean holdsFor(int left, int right) {
            switch (kind) {
                case COMPARE:
                    return relation == 0 ? left == number : relation < 0 ? left < number : left > number;
                case REMAINDER:
                    return number > 0 && Math.floorMod(left, number) == remainder;
                case TOTAL:
                    return left + right < number;
                case EQUAL:
                    return left == right;
                case BAND:
                    return Math.abs(left - right) <= number;
                default:
                    return left < right;
            }
        }

        long rankNumerator() {
            return (long) cost * (evaluated + 1);
        }

        long rankDenominator() {
            return (long) evaluated - passed + 1;
        }

        boolean ranksBefore(Operator other) {
            return rankNumerator() * other.rankDenominator() < other.rankNumerator() * rankDenominator();
        }

        void copyFrom(Operator other) {
            kind = other.kind;
            cost = other.cost;
            active = other.active;
            evaluated = other.evaluated;
            passed = other.passed;
            leftSource = other.leftSource;
            leftValue = other.leftValue;
            rightSource = other.rightSource;
            rightValue = other.rightValue;
            relation = other.relation;
            number = other.number;
            remainder = other.remainder;
        }
    }

    private static final class Tape {
        private final byte[] signs;
        private int length;

        Tape() {
            signs = new byte[MAX_TAPE];
            length = 0;
        }

        int append(int sign) {
            if (length >= 0 && length < MAX_TAPE) {
                signs[length] = (byte) sign;
                length++;
            }
            return length;
        }

        /** The byte at an index, -1 behind the end. */
        int signAt(int i) {
            return i >= 0 && i < length && i < MAX_TAPE ? signs[i] : -1;
        }

        void copyFrom(Tape other) {
            System.arraycopy(other.signs, 0, signs, 0, MAX_TAPE);
            length = other.length;
        }
    }

    /** The latest events, in a ring. */
    private static final class Events {
        private final int[] ring;
        private int total;

        Events() {
            ring = new int[KEPT_EVENTS];
            total = 0;
        }

        void add(int event) {
            ring[total & (KEPT_EVENTS - 1)] = event;
            total++;
        }

        int kept() {
            return Math.min(total, KEPT_EVENTS);
        }

        /** The event that is i before the latest one. */
        int get(int i) {
            return ring[(total - 1 - i) & (KEPT_EVENTS - 1)];
        }

        void copyFrom(Events other) {
            System.arraycopy(other.ring, 0, ring, 0, KEPT_EVENTS);
            total = other.total;
        }
    }

    /** What the answer of the query comes to. */
    private static final class Tally {
        private int combinations;
        private int leastCode;

        Tally() {
            combinations = 0;
            leastCode = 0;
        }

        void add(int code) {
            if (combinations == 0 || code < leastCode) {
                leastCode = code;
            }
            combinations++;
        }
    }

    /**
     * Reads the text on the tape byte by byte, and stops for good at the first byte with which no
     * operator can continue: once it is wrong, it takes nothing more, and at is the error position.
     */
    private static final class TextReader {
        private final State state;
        private final Tape tape;
        private int at;
        private boolean wrong;

        TextReader(State readFor) {
            state = readFor;
            tape = readFor.tape;
            at = 0;
            wrong = false;
        }

        boolean readOperator(Operator into) {
            into.cost = readNumber(1, 99);
            expect(':');
            into.leftSource = readDigit(0, state.sourceCount - 1);
            into.leftValue = readValueOf(into.leftSource);
            into.rightSource = into.leftSource;
            into.rightValue = into.leftValue;
            readCondition(into);
            if (at < tape.length) {
                wrong = true;
            }
            return !wrong;
        }

        private void readCondition(Operator into) {
            if (take('%')) {
                into.kind = REMAINDER;
                into.number = readNumber(1, 99);
                expect('=');
                into.remainder = readNumber(0, into.number - 1);
            } else if (take('+')) {
                into.kind = TOTAL;
                readDigit(into.leftSource, into.leftSource);
                into.rightValue = readValueOf(into.leftSource);
                expect('<');
                into.number = readSigned();
            } else if (take('~')) {
                into.kind = BAND;
                readOther(into);
                expect(',');
                into.number = readNumber(0, 99);
            } else if (take('=')) {
                readComparison(into, 0, EQUAL);
            } else if (take('<')) {
                readComparison(into, -1, BELOW);
            } else {
                expect('>');
                into.kind = COMPARE;
                into.relation = 1;
                into.number = readSigned();
            }
        }

        /** A digit may begin a number as well as a reference: only the point behind it tells. */
        private void readComparison(Operator into, int relation, int kindOfTwo) {
            int digit = tape.signAt(at) - '0';
            boolean other = state.hasSource(digit) && digit != into.leftSource;
            if (other && tape.signAt(at + 1) == '.') {
                into.kind = kindOfTwo;
                readOther(into);
            } else {
                into.kind = COMPARE;
                into.relation = relation;
                into.number = readSigned();
            }
        }

        private void readOther(Operator into) {
            if (tape.signAt(at) - '0' == into.leftSource) {
                wrong = true;
            }
            into.rightSource = readDigit(0, state.sourceCount - 1);
            into.rightValue = readValueOf(into.rightSource);
        }

        private int readValueOf(int source) {
            expect('.');
            int width = state.hasSource(source) ? state.sources[source].width : 0;
            return readDigit(0, width - 1);
        }

        private int readSigned() {
            return take('-') ? -readNumber(1, MAX_VALUE) : readNumber(0, MAX_VALUE);
        }

        /** A number without leading zeros: behind a leading 0 no digit is taken. */
        private int readNumber(int low, int high) {
            int number = readDigit(low, Math.min(high, 9));
            for (int i = 0; i < 2 && number > 0 && isDigit(tape.signAt(at)); i++) {
                number = number * 10 + readDigit(0, Math.min(high - number * 10, 9));
            }
            return number;
        }

        private static boolean isDigit(int sign) {
            return sign >= '0' && sign <= '9';
        }

        private int readDigit(int low, int high) {
            int digit = tape.signAt(at) - '0';
            if (wrong || digit < low || digit > high) {
                wrong = true;
                return 0;
            }
            at++;
            return digit;
        }

        private void expect(char sign) {
            if (wrong || tape.signAt(at) != sign) {
                wrong = true;
                return;
            }
            at++;
        }

        private boolean take(char sign) {
            if (wrong || tape.signAt(at) != sign) {
                return false;
            }
            at++;
            return true;
        }
    }

    /** All that a snapshot contains; simulations run on a copy of it. */
    private static final class State {
        private final Source[] sources;
        private int sourceCount;
        private final Operator[] operators;
        private int operatorCount;
        private final Ledger queue;
        private final Ledger parked;
        private final Ledger probes;
        private final Ledger outputs;
        private final Tape tape;
        private final Events events;
        private int policy;
        private int discipline;
        private int arrivals;
        private int steps;
        private int work;

        State() {
            sources = new Source[MAX_SOURCES];
            for (int s = 0; s < MAX_SOURCES; s++) {
                sources[s] = new Source();
            }
            operators = new Operator[MAX_OPERATORS];
            for (int k = 0; k < MAX_OPERATORS; k++) {
                operators[k] = new Operator();
            }
            queue = new Ledger();
            parked = new Ledger();
            probes = new Ledger();
            outputs = new Ledger();
            tape = new Tape();
            events = new Events();
        }

        void copyFrom(State other) {
            for (int s = 0; s < MAX_SOURCES; s++) {
                sources[s].copyFrom(other.sources[s]);
            }
            for (int k = 0; k < MAX_OPERATORS; k++) {
                operators[k].copyFrom(other.operators[k]);
            }
            sourceCount = other.sourceCount;
            operatorCount = other.operatorCount;
            queue.copyFrom(other.queue);
            parked.copyFrom(other.parked);
            probes.copyFrom(other.probes);
            outputs.copyFrom(other.outputs);
            tape.copyFrom(other.tape);
            events.copyFrom(other.events);
            policy = other.policy;
            discipline = other.discipline;
            arrivals = other.arrivals;
            steps = other.steps;
            work = other.work;
        }

        // ---- sources and rows

        boolean hasSource(int s) {
            return s >= 0 && s < sourceCount && s < MAX_SOURCES;
        }

        int addSource(int width) {
            if (sourceCount < 0 || sourceCount >= MAX_SOURCES) {
                return FULL;
            }
            sources[sourceCount].width = width;
            sourceCount++;
            return sourceCount - 1;
        }

        void keepWindow(int s) {
            if (!hasSource(s)) {
                return;
            }
            for (int row = 0; row < MAX_ROWS; row++) {
                boolean tooMany = Integer.bitCount(sources[s].live) > sources[s].window;
                if (tooMany && sources[s].isLive(row)) {
                    dropRow(s, row);
                }
            }
        }

        /** Drops a row, and tells how many outputs had it. */
        int dropRow(int s, int row) {
            if (!hasSource(s)) {
                return 0;
            }
            sources[s].live &= ~(1 << row);
            queue.forgetRow(s, row);
            parked.forgetRow(s, row);
            probes.forgetRow(s, row);
            events.add(DROPPED_EVENT + s);
            return outputs.forgetRow(s, row);
        }

        // ---- operators

        boolean hasOperator(int k) {
            return k >= 0 && k < operatorCount && k < MAX_OPERATORS;
        }

        /** Adds the operator that has been read into the first free place. */
        int addOperator() {
            int k = operatorCount;
            if (k < 0 || k >= MAX_OPERATORS) {
                return FULL;
            }
            operators[k].begin();
            operatorCount++;
            outputs.moveAllTo(queue);
            events.add(ADDED_EVENT + k);
            return k;
        }

        int removeOperator(int k) {
            if (!hasOperator(k)) {
                return NONE;
            }
            operators[k].active = false;
            events.add(REMOVED_EVENT + k);
            int released = parked.release(k, false, queue);
            return released + probes.release(k, true, queue);
        }

        int activeOperators() {
            int active = 0;
            for (int k = 0; k < operatorCount && k < MAX_OPERATORS; k++) {
                active += operators[k].active ? 1 : 0;
            }
            return active;
        }

        boolean holds(int k, long element) {
            if (!hasOperator(k)) {
                return false;
            }
            Operator asked = operators[k];
            int left = asked.leftSource;
            int right = asked.rightSource;
            if (!hasSource(left) || !hasSource(right)) {
                return false;
            }
            return asked.holdsFor(sources[left].valueAt(Element.rowOf(element, left), asked.leftValue),
                    sources[right].valueAt(Element.rowOf(element, right), asked.rightValue));
        }

        // ---- a step

        int nextIndex() {
            return discipline == 1 ? queue.size - 1 : 0;
        }

        void takeStep() {
            long element = discipline == 1 ? queue.takeLast() : queue.takeFirst();
            steps++;
            if (Element.isRepeated(element)) {
                probeAgain(element);
                return;
            }
            int operator = chooseOperator(element);
            if (operator >= 0) {
                evaluate(operator, element);
                return;
            }
            int source = chooseSource(element);
            if (source >= 0) {
                probe(source, element);
                return;
            }
            outputs.add(element);
            events.add(OUTPUT_EVENT);
        }

        /** The ready operator that the policy takes, -1 if none is ready. */
        int chooseOperator(long partial) {
            int covered = Element.covered(partial);
            int passed = Element.passed(partial);
            int chosen = NONE;
            for (int k = 0; k < operatorCount && k < MAX_OPERATORS; k++) {
                Operator asked = operators[k];
                boolean ready = asked.active && (passed >> k & 1) == 0 && (asked.sources() & ~covered) == 0;
                if (ready && (chosen < 0 || isPreferred(asked, operators[chosen]))) {
                    chosen = k;
                }
            }
            return chosen;
        }

        /** Whether the policy prefers an operator to one with a lower number. */
        private boolean isPreferred(Operator asked, Operator lower) {
            switch (policy) {
                case 1:
                    return asked.cost < lower.cost;
                case 2:
                    return asked.ranksBefore(lower);
                case 3:
                    return true;
                case 4:
                    return asked.evaluated < lower.evaluated;
                default:
                    return false;
            }
        }

        private void evaluate(int k, long partial) {
            if (!hasOperator(k)) {
                return;
            }
            operators[k].evaluated++;
            work += operators[k].cost;
            if (holds(k, partial)) {
                operators[k].passed++;
                queue.add(Element.withPassed(partial, k));
            } else {
                parked.add(Element.parkedAt(partial, k));
                events.add(PARKED_EVENT + k);
            }
        }

        /** The source to probe, -1 if the partial covers all sources. */
        int chooseSource(long partial) {
            int chosen = NONE;
            int fewest = 0;
            for (int s = 0; s < sourceCount && s < MAX_SOURCES; s++) {
                if (Element.rowOf(partial, s) >= 0) {
                    continue;
                }
                int candidates = Integer.bitCount(candidatesIn(s, partial, guideTo(s, partial), true));
                if (chosen < 0 || candidates < fewest) {
                    chosen = s;
                    fewest = candidates;
                }
            }
            return chosen;
        }

        /** The guide for a probe of a source, -1 if there is none. */
        private int guideTo(int s, long partial) {
            int covered = Element.covered(partial);
            for (int k = 0; k < operatorCount && k < MAX_OPERATORS; k++) {
                Operator asked = operators[k];
                boolean refers = (asked.sources() >> s & 1) == 1 && (asked.sources() & covered) != 0;
                if (asked.active && asked.kind == EQUAL && refers) {
                    return k;
                }
            }
            return NONE;
        }

        /** The older live rows for which the operator holds or not, as wanted; all, if there is none. */
        private int candidatesIn(int s, long partial, int k, boolean wanted) {
            if (!hasSource(s)) {
                return 0;
            }
            int older = sources[s].liveBefore(Element.origin(partial));
            if (k < 0) {
                return older;
            }
            int found = 0;
            for (int row = 0; row < MAX_ROWS; row++) {
                if ((older >> row & 1) == 1 && holds(k, Element.withRow(partial, s, row)) == wanted) {
                    found |= 1 << row;
                }
            }
            return found;
        }

        private void probe(int s, long partial) {
            if (!hasSource(s)) {
                return;
            }
            int guide = guideTo(s, partial);
            int candidates = candidatesIn(s, partial, guide, true);
            int matches = Integer.bitCount(candidates);
            extend(guide < 0 ? partial : Element.withPassed(partial, guide), s, candidates);
            work += 1 + matches;
            sources[s].probes++;
            sources[s].matches += matches;
            if (guide >= 0) {
                probes.add(Element.probeAt(partial, guide, s));
            }
            events.add(PROBED_EVENT + s);
        }

        private void probeAgain(long repeated) {
            int s = Element.sourceOf(repeated);
            long partial = Element.partialOf(repeated);
            int candidates = candidatesIn(s, partial, Element.operatorOf(repeated), false);
            extend(partial, s, candidates);
            work += 1 + Integer.bitCount(candidates);
            events.add(REPEATED_EVENT + s);
        }

        private void extend(long partial, int s, int rows) {
            for (int row = 0; row < MAX_ROWS; row++) {
                if ((rows >> row & 1) == 1) {
                    queue.add(Element.withRow(partial, s, row));
                }
            }
        }

        // ---- combinations

        /** The combination of a code, NOTHING if the code does not give a live row for each source. */
        long combinationOf(int code) {
            long combination = Element.NOTHING;
            int latest = 0;
            int rest = code;
            for (int s = Math.min(sourceCount, MAX_SOURCES) - 1; s >= 0; s--) {
                int row = rest % 100;
                rest /= 100;
                if (!sources[s].isLive(row)) {
                    return Element.NOTHING;
                }
                combination = Element.withRow(combination, s, row);
                latest = Math.max(latest, sources[s].arrivalAt(row));
            }
            return rest == 0 && code >= 0 ? Element.withOrigin(combination, latest) : Element.NOTHING;
        }

        /** Where a combination is: the ledgers have it at exactly one place. */
        int placeOf(long combination) {
            for (int i = 0; i < outputs.size; i++) {
                if (Element.isPartOf(outputs.get(i), combination)) {
                    return 1;
                }
            }
            for (int i = 0; i < queue.size; i++) {
                long element = queue.get(i);
                if (Element.isPartOf(element, combination) && !missedBy(element, combination)) {
                    return 2;
                }
            }
            for (int i = 0; i < parked.size; i++) {
                if (Element.isPartOf(parked.get(i), combination)) {
                    return 10 + Element.operatorOf(parked.get(i));
                }
            }
            for (int i = 0; i < probes.size; i++) {
                int operator = Element.operatorOf(probes.get(i));
                if (Element.isPartOf(probes.get(i), combination) && !holds(operator, combination)) {
                    return 10 + operator;
                }
            }
            return NONE;
        }

        /** A repeated probe forms only what the operator had excluded. */
        private boolean missedBy(long element, long combination) {
            return Element.isRepeated(element) && holds(Element.operatorOf(element), combination);
        }

        /** Tallies the combinations of the answer that begin with the given rows. */
        private void tallyFrom(int s, long rows, int code, Tally tally) {
            if (!hasSource(s)) {
                if (allHold(rows)) {
                    tally.add(code);
                }
                return;
            }
            for (int row = 0; row < MAX_ROWS; row++) {
                if (sources[s].isLive(row)) {
                    tallyFrom(s + 1, Element.withRow(rows, s, row), code * 100 + row, tally);
                }
            }
        }

        private boolean allHold(long combination) {
            for (int k = 0; k < operatorCount && k < MAX_OPERATORS; k++) {
                if (operators[k].active && !holds(k, combination)) {
                    return false;
                }
            }
            return true;
        }

        /** No combination is an output twice, so equal numbers make equal sets. */
        boolean isSettledOn(int combinations) {
            if (queue.size > 0 || outputs.size != combinations) {
                return false;
            }
            for (int i = 0; i < outputs.size; i++) {
                if (!allHold(outputs.get(i))) {
                    return false;
                }
            }
            return true;
        }
    }
}
