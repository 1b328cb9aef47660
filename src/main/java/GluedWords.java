import java.util.Arrays;

/**
 * Words in cyclic groups that are glued along subgroups, and the tree on which they act.
 * The numbered promises of the document say what each public call answers.
 */
public final class GluedWords {
    public static final int NONE = -1;

    private static final int MOST_VERTICES = 6;
    private static final int MOST_EDGES = 6;
    private static final int MOST_WORDS = 10;
    private static final int MOST_STEPS = 24;
    private static final int MOST_ORDER = 60;
    private static final int MOST_ACTS = 8;
    private static final int MOST_MARKS = 3;
    private static final int MOST_BYTES = 700;
    private static final int MOST_FAR = 12;
    private static final int MOST_NEAR = 99;
    private static final int MOST_POWER = 9;
    private static final long MOST_TOLD = 1_000_000_000_000L;

    /** A word turned, a loop and a word behind one another: nothing longer is ever reduced. */
    private static final int WORK_STEPS = 3 * MOST_STEPS;
    private static final int STEP_KINDS = 2 * MOST_EDGES;
    /** Stands where no step is; its opposite is no step either. */
    private static final int NO_STEP = STEP_KINDS;

    private static final int GOOD = 0;
    private static final int BAD_NUMBER = 1;
    private static final int NO_SUCH = 2;
    private static final int TOO_MANY = 3;
    private static final int UNFIT = 4;
    private static final int THERE_IS_NONE = 5;
    private static final int TOO_LONG = 6;
    private static final int FAULTY = 9;

    private final Store now = new Store();
    private final History history = new History();
    private final Store[] markedStores = new Store[MOST_MARKS];
    private final History[] markedHistories = new History[MOST_MARKS];
    private int markCount = 0;
    private int latest = GOOD;
    private final byte[] tape = new byte[MOST_BYTES];
    private int tapeSize = 0;
    private final Reader reader = new Reader();
    private final Teller teller = new Teller();
    private final Walk one = new Walk();
    private final Walk two = new Walk();
    private final Walk row = new Walk();
    private final Walk otherRow = new Walk();
    private final Walk spare = new Walk();
    private final Kinship kinship = new Kinship();
    private final Carrier carrier = new Carrier();
    private final Shape shape = new Shape();
    private final Counts counts = new Counts();

    public GluedWords() {
        for (int i = 0; i < MOST_MARKS; i++) {
            markedStores[i] = new Store();
            markedHistories[i] = new History();
        }
    }

    public int status() {
        return latest;
    }

    public int feed(int a, int b, int c, int d, int e) {
        if (tapeSize + 20 > MOST_BYTES) {
            return NONE;
        }
        feedFour(a);
        feedFour(b);
        feedFour(c);
        feedFour(d);
        feedFour(e);
        return tapeSize;
    }

    public int load(int n) {
        if (n < 0 || n > tapeSize) {
            return fail(BAD_NUMBER);
        }
        tapeSize = 0;
        if (!reader.read(tape, n)) {
            return fail(FAULTY);
        }
        history.push(now);
        now.copyFrom(reader.result());
        return answer(now.words());
    }

    public int fault(int what) {
        return reader.tellFault(what);
    }

    public int many(int what) {
        switch (what) {
            case 0:
                return answer(now.vertices());
            case 1:
                return answer(now.edges());
            case 2:
                return answer(now.words());
            case 3:
                return answer(history.size());
            case 4:
                return answer(markCount);
            case 5:
                return answer(now.edges() - now.vertices() + shape.parts(now));
            case 6:
                return answer(shape.parts(now));
            default:
                return fail(BAD_NUMBER);
        }
    }

    public int order(int vertex) {
        return now.hasVertex(vertex) ? answer(now.orderAt(vertex)) : fail(NO_SUCH);
    }

    public int edge(int edge, int what) {
        if (what < 0 || what > 4) {
            return fail(BAD_NUMBER);
        }
        if (!now.hasEdge(edge)) {
            return fail(NO_SUCH);
        }
        return answer(what == 4 ? now.common(edge) : now.edgePart(edge, what));
    }

    public int word(int word, int what) {
        if (what < 0 || what > 4) {
            return fail(BAD_NUMBER);
        }
        if (!now.readWord(word, one)) {
            return fail(NO_SUCH);
        }
        if (what == 0) {
            return answer(one.begin());
        }
        if (what == 1) {
            return answer(now.endOf(one));
        }
        if (what == 2) {
            return answer(one.size());
        }
        int pinches = Forms.reduce(now, one, row);
        return answer(what == 4 ? pinches : bit(row.sameAs(one)));
    }

    public int number(int word, int i) {
        if (i < 0) {
            return fail(BAD_NUMBER);
        }
        if (!now.readWord(word, one)) {
            return fail(NO_SUCH);
        }
        return i > one.size() ? fail(THERE_IS_NONE) : answer(one.numberAt(i));
    }

    public int step(int word, int i) {
        if (i < 0) {
            return fail(BAD_NUMBER);
        }
        if (!now.readWord(word, one)) {
            return fail(NO_SUCH);
        }
        return i >= one.size() ? fail(THERE_IS_NONE) : answer(one.stepAt(i));
    }

    public int take(int vertex, int number) {
        if (number < 0) {
            return fail(BAD_NUMBER);
        }
        if (!now.hasVertex(vertex)) {
            return fail(NO_SUCH);
        }
        if (now.isFull()) {
            return fail(TOO_MANY);
        }
        row.start(vertex, rest(number, now.orderAt(vertex)));
        return keep(row);
    }

    public int form(int word) {
        if (!now.readWord(word, one)) {
            return fail(NO_SUCH);
        }
        Forms.reduce(now, one, row);
        history.push(now);
        now.writeWord(word, row);
        return answer(row.size());
    }

    public int times(int word, int other) {
        if (!readTwo(word, other)) {
            return fail(NO_SUCH);
        }
        if (now.isFull()) {
            return fail(TOO_MANY);
        }
        if (now.endOf(one) != two.begin()) {
            return fail(UNFIT);
        }
        Forms.product(now, one, two, row);
        return row.size() > MOST_STEPS ? fail(TOO_LONG) : keep(row);
    }

    public int turned(int word) {
        if (!now.readWord(word, one)) {
            return fail(NO_SUCH);
        }
        if (now.isFull()) {
            return fail(TOO_MANY);
        }
        Forms.turn(now, one, row);
        return keep(row);
    }

    public int power(int word, int m) {
        if (m < -MOST_POWER || m > MOST_POWER) {
            return fail(BAD_NUMBER);
        }
        int unfit = cannotGrowFromLoop(word);
        if (unfit != GOOD) {
            return fail(unfit);
        }
        row.start(one.begin(), 0);
        for (int i = 0; i < Math.abs(m); i++) {
            if (m > 0) {
                Forms.append(now, row, one);
            } else {
                Forms.appendTurned(now, row, one);
            }
            if (row.size() > MOST_STEPS) {
                return fail(TOO_LONG);
            }
        }
        return keep(row);
    }

    public int core(int word) {
        int unfit = cannotGrowFromLoop(word);
        if (unfit != GOOD) {
            return fail(unfit);
        }
        Forms.shrink(now, one, row, spare);
        return keep(row);
    }

    public int spell(int vertex, int k, int i) {
        if (k < 0 || k > MOST_FAR || i < 0) {
            return fail(BAD_NUMBER);
        }
        if (!now.hasVertex(vertex)) {
            return fail(NO_SUCH);
        }
        if (now.isFull()) {
            return fail(TOO_MANY);
        }
        if (i >= counts.loops(now, vertex, k)) {
            return fail(THERE_IS_NONE);
        }
        counts.find(now, vertex, k, i, row);
        return keep(row);
    }

    public int drop(int word) {
        if (!now.hasWord(word)) {
            return fail(NO_SUCH);
        }
        history.push(now);
        now.removeWord(word);
        return answer(now.words());
    }

    public int undo() {
        if (!history.pop(now)) {
            return fail(THERE_IS_NONE);
        }
        return answer(history.size());
    }

    public int mark() {
        if (markCount < 0 || markCount >= MOST_MARKS) {
            return fail(TOO_MANY);
        }
        Store store = markedStores[markCount];
        History past = markedHistories[markCount];
        if (store == null || past == null) {
            return fail(TOO_MANY);
        }
        store.copyFrom(now);
        past.copyFrom(history);
        markCount++;
        return answer(markCount);
    }

    public int back() {
        int top = markCount - 1;
        if (top < 0 || top >= MOST_MARKS) {
            return fail(THERE_IS_NONE);
        }
        Store store = markedStores[top];
        History past = markedHistories[top];
        if (store == null || past == null) {
            return fail(THERE_IS_NONE);
        }
        now.copyFrom(store);
        // what can be undone is part of what is taken back: an act that is gone can't be undone again
        history.copyFrom(past);
        markCount = top;
        return answer(markCount);
    }

    public int alike(int word, int other) {
        if (!readTwo(word, other)) {
            return fail(NO_SUCH);
        }
        Forms.reduce(now, one, row);
        return answer(bit(isForm(two, row)));
    }

    public int steps(int word) {
        if (!now.readWord(word, one)) {
            return fail(NO_SUCH);
        }
        Forms.reduce(now, one, row);
        return answer(row.size());
    }

    public int length(int word) {
        int unfit = readCore(word);
        return unfit != GOOD ? fail(unfit) : answer(row.size());
    }

    public int orderOf(int word) {
        int unfit = readCore(word);
        if (unfit != GOOD) {
            return fail(unfit);
        }
        if (row.size() > 0) {
            return answer(0);
        }
        return answer(orderIn(row.numberAt(0), now.orderAt(row.begin())));
    }

    public int kin(int word, int other) {
        int unfit = readTwoLoops(word, other);
        if (unfit != GOOD) {
            return fail(unfit);
        }
        kinship.start(now, one);
        return answer(bit(kinship.reaches(now, two)));
    }

    public int kinBy(int word, int other, int what) {
        if (what < 0 || what > 1) {
            return fail(BAD_NUMBER);
        }
        int unfit = readTwoLoops(word, other);
        if (unfit != GOOD) {
            return fail(unfit);
        }
        kinship.start(now, one);
        if (!kinship.reaches(now, two)) {
            return fail(THERE_IS_NONE);
        }
        return answer(what == 0 ? kinship.begunBehind() : kinship.numberTaken());
    }

    public int kins(int word) {
        int unfit = readLoop(word);
        if (unfit != GOOD) {
            return fail(unfit);
        }
        kinship.start(now, one);
        int set = 1 << word;
        for (int i = 0; i < now.words(); i++) {
            if (i != word && now.readWord(i, two) && now.isLoop(two) && kinship.reaches(now, two)) {
                set |= 1 << i;
            }
        }
        return answer(set);
    }

    public int net(int word, int edge) {
        if (!now.hasEdge(edge) || !now.readWord(word, one)) {
            return fail(NO_SUCH);
        }
        int sum = 0;
        for (int i = 0; i < one.size(); i++) {
            int s = one.stepAt(i);
            if (s >> 1 == edge) {
                sum += isBackwards(s) ? -1 : 1;
            }
        }
        return answer(sum);
    }

    public int central(int vertex, int number) {
        boolean exists = now.hasVertex(vertex);
        if (number < 0 || exists && number >= now.orderAt(vertex)) {
            return fail(BAD_NUMBER);
        }
        if (!exists) {
            return fail(NO_SUCH);
        }
        int order = orderIn(number, now.orderAt(vertex));
        return answer(bit(rest(shape.centralOrder(now, vertex), order) == 0));
    }

    public int centre(int vertex) {
        if (!now.hasVertex(vertex)) {
            return fail(NO_SUCH);
        }
        // a round group has for each divisor of its order just so many numbers whose order divides it
        return answer(shape.centralOrder(now, vertex));
    }

    public int having(int vertex, int order) {
        if (order < 1) {
            return fail(BAD_NUMBER);
        }
        if (!now.hasVertex(vertex)) {
            return fail(NO_SUCH);
        }
        int n = now.orderAt(vertex);
        int found = 0;
        for (int i = 0; i < n; i++) {
            found += bit(orderIn(i, n) == order);
        }
        return answer(found);
    }

    public int root(int word) {
        int unfit = readCore(word);
        if (unfit != GOOD) {
            return fail(unfit);
        }
        return row.size() == 0 ? fail(THERE_IS_NONE) : answer(carrier.greatestRoot(now, row));
    }

    public int swaps(int word, int other) {
        int unfit = readTwoLoops(word, other);
        if (unfit != GOOD) {
            return fail(unfit);
        }
        if (one.begin() != two.begin()) {
            return fail(UNFIT);
        }
        Forms.product(now, one, two, row);
        Forms.product(now, two, one, otherRow);
        return answer(bit(row.sameAs(otherRow)));
    }

    public int alikes(int word) {
        if (!now.readWord(word, one)) {
            return fail(NO_SUCH);
        }
        Forms.reduce(now, one, row);
        int set = 0;
        for (int i = 0; i < now.words(); i++) {
            if (now.readWord(i, two) && isForm(two, row)) {
                set |= 1 << i;
            }
        }
        return answer(set);
    }

    public int twin(int word) {
        if (!now.readWord(word, one)) {
            return fail(NO_SUCH);
        }
        Forms.reduce(now, one, row);
        for (int i = 0; i < now.words(); i++) {
            if (i != word && now.readWord(i, two) && isForm(two, row)) {
                return answer(i);
            }
        }
        return fail(THERE_IS_NONE);
    }

    public int apart(int word, int other) {
        int unfit = readWay(word, other);
        return unfit != GOOD ? fail(unfit) : answer(row.size());
    }

    public int moves(int loop, int word) {
        if (!readTwo(loop, word)) {
            return fail(NO_SUCH);
        }
        if (!now.isLoop(one) || one.begin() != two.begin()) {
            return fail(UNFIT);
        }
        Forms.turn(now, two, row);
        Forms.append(now, row, one);
        Forms.append(now, row, two);
        return answer(row.size());
    }

    public int way(int word, int other, int i) {
        if (i < 0) {
            return fail(BAD_NUMBER);
        }
        int unfit = readWay(word, other);
        if (unfit != GOOD) {
            return fail(unfit);
        }
        if (i > row.size()) {
            return fail(THERE_IS_NONE);
        }
        return answer(i == 0 ? row.begin() : now.toVertex(row.stepAt(i - 1)));
    }

    public long holds(int loop, int r) {
        if (r < 0 || r > MOST_FAR) {
            return fail(BAD_NUMBER);
        }
        int unfit = readCore(loop);
        if (unfit != GOOD) {
            return fail(unfit);
        }
        if (row.size() > 0) {
            return fail(THERE_IS_NONE);
        }
        int order = orderIn(row.numberAt(0), now.orderAt(row.begin()));
        return answerLong(counts.held(now, row.begin(), order, r));
    }

    public int axis(int loop, int i) {
        if (i < 0) {
            return fail(BAD_NUMBER);
        }
        int unfit = readCore(loop);
        if (unfit != GOOD) {
            return fail(unfit);
        }
        if (row.size() == 0) {
            return fail(THERE_IS_NONE);
        }
        return answer(now.fromVertex(row.stepAt(rest(i, row.size()))));
    }

    public long ball(int vertex, int r) {
        if (r < 0 || r > MOST_FAR) {
            return fail(BAD_NUMBER);
        }
        return now.hasVertex(vertex) ? answerLong(counts.held(now, vertex, 1, r)) : fail(NO_SUCH);
    }

    public long sphere(int vertex, int k) {
        if (k < 0 || k > MOST_FAR) {
            return fail(BAD_NUMBER);
        }
        return now.hasVertex(vertex) ? answerLong(counts.loops(now, vertex, k)) : fail(NO_SUCH);
    }

    public long listed(int loop) {
        int unfit = readLoop(loop);
        if (unfit != GOOD) {
            return fail(unfit);
        }
        Forms.reduce(now, one, row);
        return row.size() > MOST_FAR ? fail(THERE_IS_NONE) : answerLong(counts.placeOf(now, row));
    }

    public int near(int word, int r) {
        if (r < 0 || r > MOST_NEAR) {
            return fail(BAD_NUMBER);
        }
        if (!now.hasWord(word)) {
            return fail(NO_SUCH);
        }
        int set = 0;
        for (int i = 0; i < now.words(); i++) {
            if (readWay(word, i) == GOOD && row.size() <= r) {
                set |= 1 << i;
            }
        }
        return answer(set);
    }

    public int meet(int vertex) {
        if (!now.hasVertex(vertex)) {
            return fail(NO_SUCH);
        }
        int sum = 0;
        for (int s = 0; s < now.stepKinds(); s++) {
            sum += now.fromVertex(s) == vertex ? now.fromIndex(s) : 0;
        }
        return answer(sum);
    }

    public int tell(int word) {
        if (!now.readWord(word, one)) {
            return fail(NO_SUCH);
        }
        return answer(teller.tellWord(one));
    }

    public int out(int i) {
        if (i < 0) {
            return fail(BAD_NUMBER);
        }
        return i >= teller.size() ? fail(THERE_IS_NONE) : answer(teller.byteAt(i));
    }

    public int chi(int what) {
        if (what < 0 || what > 1) {
            return fail(BAD_NUMBER);
        }
        shape.weigh(now);
        return answer((int) (what == 0 ? shape.above() : shape.below()));
    }

    // ---- what the public calls share

    private int fail(int why) {
        latest = why;
        return NONE;
    }

    private int answer(int value) {
        latest = GOOD;
        return value;
    }

    private long answerLong(long value) {
        latest = GOOD;
        return value;
    }

    private void feedFour(int four) {
        for (int shift = 24; shift >= 0; shift -= 8) {
            if (tapeSize >= 0 && tapeSize < tape.length) {
                tape[tapeSize] = (byte) (four >> shift);
                tapeSize++;
            }
        }
    }

    private int keep(Walk walk) {
        history.push(now);
        return answer(now.addWord(walk));
    }

    private boolean readTwo(int word, int other) {
        return now.readWord(word, one) && now.readWord(other, two);
    }

    private int readLoop(int word) {
        if (!now.readWord(word, one)) {
            return NO_SUCH;
        }
        return now.isLoop(one) ? GOOD : UNFIT;
    }

    private int readTwoLoops(int word, int other) {
        if (!readTwo(word, other)) {
            return NO_SUCH;
        }
        return now.isLoop(one) && now.isLoop(two) ? GOOD : UNFIT;
    }

    /** TOO_MANY goes ahead of UNFIT, so room is looked at between the word and its being a loop. */
    private int cannotGrowFromLoop(int word) {
        int unfit = readLoop(word);
        return unfit != NO_SUCH && now.isFull() ? TOO_MANY : unfit;
    }

    private int readCore(int word) {
        int unfit = readLoop(word);
        if (unfit == GOOD) {
            Forms.shrink(now, one, row, spare);
        }
        return unfit;
    }

    private int readWay(int word, int other) {
        if (!readTwo(word, other)) {
            return NO_SUCH;
        }
        if (one.begin() != two.begin()) {
            return UNFIT;
        }
        Forms.turn(now, one, row);
        Forms.append(now, row, two);
        return GOOD;
    }

    private boolean isForm(Walk walk, Walk reduced) {
        Forms.reduce(now, walk, otherRow);
        return otherRow.sameAs(reduced);
    }

    // ---- numbers

    private static int bit(boolean holds) {
        return holds ? 1 : 0;
    }

    /** What is left of a number by n, never below 0. */
    private static int rest(int a, int n) {
        if (n < 1) {
            return 0;
        }
        int left = a % n;
        return left < 0 ? left + n : left;
    }

    private static int share(int a, int n) {
        return n < 1 ? 0 : a / n;
    }

    /** Euclid on numbers of less than 64 bits ends within 128 rounds. */
    private static long greatestDivisor(long a, long b) {
        long x = Math.abs(a);
        long y = Math.abs(b);
        for (int round = 0; round < 128 && y > 0; round++) {
            long left = x % y;
            x = y;
            y = left;
        }
        return x;
    }

    private static int orderIn(int number, int n) {
        return share(n, (int) greatestDivisor(number, n));
    }

    private static long atMostTold(long a) {
        return Math.min(a, MOST_TOLD);
    }

    private static int opposite(int step) {
        return step ^ 1;
    }

    private static boolean isBackwards(int step) {
        return (step & 1) == 1;
    }

    /** A word: a vertex, then numbers with steps between them. */
    private static final class Walk {
        private final int[] numbers = new int[WORK_STEPS + 1];
        private final int[] marches = new int[WORK_STEPS];
        private int beginning = 0;
        private int count = 0;

        void start(int vertex, int number) {
            beginning = vertex;
            count = 0;
            numbers[0] = number;
        }

        int begin() {
            return beginning;
        }

        int size() {
            return count;
        }

        int numberAt(int i) {
            return i < 0 || i > count || i >= numbers.length ? 0 : numbers[i];
        }

        int stepAt(int i) {
            return i < 0 || i >= count || i >= marches.length ? NO_STEP : marches[i];
        }

        int lastNumber() {
            return count < 0 || count >= numbers.length ? 0 : numbers[count];
        }

        int lastStep() {
            return count < 1 || count > marches.length ? NO_STEP : marches[count - 1];
        }

        void putNumber(int i, int number) {
            if (i >= 0 && i <= count && i < numbers.length) {
                numbers[i] = number;
            }
        }

        /** Added round, in a group of n. */
        void addLast(int number, int n) {
            putNumber(count, rest(lastNumber() + number, n));
        }

        void push(int step, int number) {
            if (count >= 0 && count < marches.length && count + 1 < numbers.length) {
                marches[count] = step;
                count++;
                numbers[count] = number;
            }
        }

        void pop() {
            if (count > 0) {
                count--;
            }
        }

        boolean sameSteps(Walk other) {
            if (beginning != other.beginning || count != other.count) {
                return false;
            }
            for (int i = 0; i < count; i++) {
                if (stepAt(i) != other.stepAt(i)) {
                    return false;
                }
            }
            return true;
        }

        boolean sameAs(Walk other) {
            if (!sameSteps(other)) {
                return false;
            }
            for (int i = 0; i <= count; i++) {
                if (numberAt(i) != other.numberAt(i)) {
                    return false;
                }
            }
            return true;
        }
    }

    /** The graph and the kept words, all in one row, so that a copy for undo and marks is one move. */
    private static final class Store {
        private static final int VERTICES = 0;
        private static final int EDGES = 1;
        private static final int WORDS = 2;
        private static final int FIRST_ORDER = 3;
        private static final int FIRST_EDGE = FIRST_ORDER + MOST_VERTICES;
        private static final int EDGE_CELLS = 4;
        private static final int FIRST_WORD = FIRST_EDGE + EDGE_CELLS * MOST_EDGES;
        /** Where it begins, how many steps, the first number; then a step and a number in turn. */
        private static final int WORD_CELLS = 3 + 2 * MOST_STEPS;

        private final int[] cells = new int[FIRST_WORD + WORD_CELLS * MOST_WORDS];

        private int cell(int i) {
            return i < 0 || i >= cells.length ? 0 : cells[i];
        }

        private void put(int i, int value) {
            if (i >= 0 && i < cells.length) {
                cells[i] = value;
            }
        }

        void clear() {
            Arrays.fill(cells, 0);
        }

        void copyFrom(Store other) {
            System.arraycopy(other.cells, 0, cells, 0, Math.min(other.cells.length, cells.length));
        }

        int vertices() {
            return cells[VERTICES];
        }

        int edges() {
            return cells[EDGES];
        }

        int words() {
            return cells[WORDS];
        }

        boolean isFull() {
            return cells[WORDS] >= MOST_WORDS;
        }

        boolean hasVertex(int vertex) {
            return vertex >= 0 && vertex < cells[VERTICES];
        }

        boolean hasEdge(int edge) {
            return edge >= 0 && edge < cells[EDGES];
        }

        boolean hasWord(int word) {
            return word >= 0 && word < cells[WORDS];
        }

        int orderAt(int vertex) {
            return vertex < 0 || vertex >= MOST_VERTICES ? 0 : cells[FIRST_ORDER + vertex];
        }

        /** A vertex (what 0, 2) or an index (1, 3) at either end. */
        int edgePart(int edge, int what) {
            boolean exists = edge >= 0 && edge < MOST_EDGES && what >= 0 && what < EDGE_CELLS;
            return exists ? cells[FIRST_EDGE + EDGE_CELLS * edge + what] : 0;
        }

        int common(int edge) {
            return share(orderAt(edgePart(edge, 0)), edgePart(edge, 1));
        }

        int stepKinds() {
            return 2 * cells[EDGES];
        }

        int fromVertex(int step) {
            return edgePart(step >> 1, isBackwards(step) ? 2 : 0);
        }

        int fromIndex(int step) {
            return edgePart(step >> 1, isBackwards(step) ? 3 : 1);
        }

        int toVertex(int step) {
            return edgePart(step >> 1, isBackwards(step) ? 0 : 2);
        }

        int toIndex(int step) {
            return edgePart(step >> 1, isBackwards(step) ? 1 : 3);
        }

        /** How many edges of the tree go on by a step, but for the one by which one came. */
        int widthBehind(int last, int step) {
            return fromIndex(step) - bit(step == opposite(last));
        }

        int endOf(Walk walk) {
            return walk.size() == 0 ? walk.begin() : toVertex(walk.lastStep());
        }

        boolean isLoop(Walk walk) {
            return endOf(walk) == walk.begin();
        }

        void addVertex(int order) {
            if (vertices() < MOST_VERTICES) {
                put(FIRST_ORDER + vertices(), order);
                put(VERTICES, vertices() + 1);
            }
        }

        void addEdge(int u, int p, int v, int q) {
            if (edges() < MOST_EDGES) {
                int base = FIRST_EDGE + EDGE_CELLS * edges();
                put(base, u);
                put(base + 1, p);
                put(base + 2, v);
                put(base + 3, q);
                put(EDGES, edges() + 1);
            }
        }

        int addWord(Walk walk) {
            int word = words();
            if (word >= MOST_WORDS) {
                return NONE;
            }
            put(WORDS, word + 1);
            writeWord(word, walk);
            return word;
        }

        void writeWord(int word, Walk walk) {
            if (!hasWord(word) || walk.size() > MOST_STEPS) {
                return;
            }
            int base = FIRST_WORD + WORD_CELLS * word;
            put(base, walk.begin());
            put(base + 1, walk.size());
            put(base + 2, walk.numberAt(0));
            for (int i = 0; i < walk.size(); i++) {
                put(base + 3 + 2 * i, walk.stepAt(i));
                put(base + 4 + 2 * i, walk.numberAt(i + 1));
            }
        }

        boolean readWord(int word, Walk into) {
            if (!hasWord(word)) {
                return false;
            }
            int base = FIRST_WORD + WORD_CELLS * word;
            int size = cell(base + 1);
            into.start(cell(base), cell(base + 2));
            for (int i = 0; i < size; i++) {
                into.push(cell(base + 3 + 2 * i), cell(base + 4 + 2 * i));
            }
            return true;
        }

        void removeWord(int word) {
            if (!hasWord(word)) {
                return;
            }
            int last = FIRST_WORD + WORD_CELLS * (words() - 1);
            for (int i = FIRST_WORD + WORD_CELLS * word; i < last; i++) {
                put(i, cell(i + WORD_CELLS));
            }
            put(WORDS, words() - 1);
        }
    }

    /** The stores ahead of the latest acts, in a ring, so that the ninth drives out the first. */
    private static final class History {
        private final Store[] ring = new Store[MOST_ACTS];
        private int first = 0;
        private int count = 0;

        History() {
            for (int i = 0; i < MOST_ACTS; i++) {
                ring[i] = new Store();
            }
        }

        private Store slot(int i) {
            int at = rest(first + i, MOST_ACTS);
            return at < ring.length ? ring[at] : null;
        }

        int size() {
            return count;
        }

        void push(Store store) {
            if (count >= MOST_ACTS) {
                first = rest(first + 1, MOST_ACTS);
                count = MOST_ACTS - 1;
            }
            Store free = slot(count);
            if (free != null) {
                free.copyFrom(store);
                count++;
            }
        }

        boolean pop(Store into) {
            Store newest = slot(count - 1);
            if (count < 1 || newest == null) {
                return false;
            }
            into.copyFrom(newest);
            count--;
            return true;
        }

        void copyFrom(History other) {
            first = 0;
            count = 0;
            for (int i = 0; i < other.count; i++) {
                Store store = other.slot(i);
                if (store != null) {
                    push(store);
                }
            }
        }
    }

    /** Reduction: a row that is a form at every moment takes words in, one behind the other. */
    private static final class Forms {
        /** Takes a step and adds the number behind it; true if it was a pinch. */
        static boolean takeStep(Store graph, Walk row, int step, int number) {
            int hand = row.lastNumber();
            int p = graph.fromIndex(step);
            int n = graph.orderAt(graph.toVertex(step));
            int carried = share(hand, p) * graph.toIndex(step);
            if (row.lastStep() == opposite(step) && rest(hand, p) == 0) {
                row.pop();
                row.addLast(carried + number, n);
                return true;
            }
            row.putNumber(row.size(), rest(hand, p));
            row.push(step, rest(carried + number, n));
            return false;
        }

        /** How many pinches it took. */
        static int append(Store graph, Walk row, Walk word) {
            int pinches = 0;
            row.addLast(word.numberAt(0), graph.orderAt(word.begin()));
            for (int i = 0; i < word.size(); i++) {
                pinches += bit(takeStep(graph, row, word.stepAt(i), word.numberAt(i + 1)));
            }
            return pinches;
        }

        static void appendTurned(Store graph, Walk row, Walk word) {
            row.addLast(-word.lastNumber(), graph.orderAt(graph.endOf(word)));
            for (int i = word.size() - 1; i >= 0; i--) {
                takeStep(graph, row, opposite(word.stepAt(i)), -word.numberAt(i));
            }
        }

        static int reduce(Store graph, Walk word, Walk row) {
            row.start(word.begin(), 0);
            return append(graph, row, word);
        }

        static void turn(Store graph, Walk word, Walk row) {
            row.start(graph.endOf(word), 0);
            appendTurned(graph, row, word);
        }

        static void product(Store graph, Walk word, Walk other, Walk row) {
            row.start(word.begin(), 0);
            append(graph, row, word);
            append(graph, row, other);
        }

        /** The core of a loop comes into row; two steps go at a time. */
        static void shrink(Store graph, Walk loop, Walk row, Walk spare) {
            row.start(loop.begin(), 0);
            append(graph, row, loop);
            for (int i = 0; i < WORK_STEPS && canShrink(graph, row); i++) {
                cutEnds(graph, row, spare);
                row.start(spare.begin(), 0);
                append(graph, row, spare);
            }
        }

        /** The last number and the first together, as they meet where a loop closes. */
        private static int seam(Store graph, Walk loop) {
            return rest(loop.lastNumber() + loop.numberAt(0), graph.orderAt(loop.begin()));
        }

        private static boolean canShrink(Store graph, Walk row) {
            int firstStep = row.stepAt(0);
            return row.size() > 1 && row.lastStep() == opposite(firstStep)
                    && rest(seam(graph, row), graph.fromIndex(firstStep)) == 0;
        }

        private static void cutEnds(Store graph, Walk row, Walk into) {
            int firstStep = row.stepAt(0);
            int inner = graph.toVertex(firstStep);
            int carried = share(seam(graph, row), graph.fromIndex(firstStep)) * graph.toIndex(firstStep);
            into.start(inner, row.numberAt(1));
            for (int i = 1; i < row.size() - 1; i++) {
                into.push(row.stepAt(i), row.numberAt(i + 1));
            }
            into.addLast(carried, graph.orderAt(inner));
        }

        /** The loop as it is begun behind some of its steps; what stood ahead of there comes last. */
        static void beginBehind(Store graph, Walk loop, int behind, Walk into) {
            if (behind < 1) {
                into.start(loop.begin(), loop.numberAt(0));
            } else {
                into.start(graph.toVertex(loop.stepAt(behind - 1)), loop.numberAt(behind));
            }
            for (int i = behind; i < loop.size(); i++) {
                into.push(loop.stepAt(i), loop.numberAt(i + 1));
            }
            if (behind > 0) {
                into.addLast(loop.numberAt(0), graph.orderAt(loop.begin()));
            }
            for (int i = 0; i < behind; i++) {
                into.push(loop.stepAt(i), i + 1 < behind ? loop.numberAt(i + 1) : 0);
            }
        }
    }

    /**
     * Tries many words against one form that has as many steps as they: a pinch would make theirs
     * shorter, so it is enough to carry on along the steps and to stop at the first that differs.
     */
    private static final class Carrier {
        private final int[] fromIndices = new int[MOST_STEPS];
        private final int[] toIndices = new int[MOST_STEPS];
        private final int[] orders = new int[MOST_STEPS];
        private final Walk trial = new Walk();
        private Walk target = trial;

        void aim(Store graph, Walk reduced) {
            target = reduced;
            for (int i = 0; i < reduced.size() && i < MOST_STEPS; i++) {
                int step = reduced.stepAt(i);
                fromIndices[i] = graph.fromIndex(step);
                toIndices[i] = graph.toIndex(step);
                orders[i] = graph.orderAt(graph.toVertex(step));
            }
        }

        /** Of a word that has the same steps as the form at which this aims. */
        boolean hits(Walk word) {
            int hand = word.numberAt(0);
            for (int i = 0; i < word.size() && i < MOST_STEPS; i++) {
                int p = fromIndices[i];
                if (rest(hand, p) != target.numberAt(i)) {
                    return false;
                }
                hand = rest(share(hand, p) * toIndices[i] + word.numberAt(i + 1), orders[i]);
            }
            return hand == target.lastNumber();
        }

        /**
         * A loop of which a core is a power moves along the same axis and begins on it: its form has
         * its share of the core's steps, and begins as the core does but for its last number.
         */
        int greatestRoot(Store graph, Walk core) {
            int size = core.size();
            aim(graph, core);
            for (int m = size; m > 1; m--) {
                if (rest(size, m) == 0 && isPower(graph, core, share(size, m))) {
                    return m;
                }
            }
            return 1;
        }

        private boolean isPower(Store graph, Walk core, int part) {
            repeatFirst(core, part);
            if (part < 1 || !trial.sameSteps(core)) {
                return false;
            }
            int n = graph.orderAt(core.begin());
            for (int last = 0; last < n; last++) {
                for (int i = part; i < core.size(); i += part) {
                    trial.putNumber(i, rest(last + core.numberAt(0), n));
                }
                trial.putNumber(core.size(), last);
                if (hits(trial)) {
                    return true;
                }
            }
            return false;
        }

        private void repeatFirst(Walk core, int part) {
            trial.start(core.begin(), core.numberAt(0));
            for (int i = 0; i < core.size(); i++) {
                trial.push(core.stepAt(rest(i, part)), core.numberAt(rest(i + 1, part)));
            }
        }
    }

    /** Which loops are alike but for where one begins: one loop first, then any number of others. */
    private static final class Kinship {
        private final Walk first = new Walk();
        private final Walk second = new Walk();
        private final Walk begun = new Walk();
        private final Walk spare = new Walk();
        private final Carrier carrier = new Carrier();
        private final int[] far = new int[MOST_VERTICES];
        private int behind = 0;
        private int taken = 0;

        void start(Store graph, Walk loop) {
            Forms.shrink(graph, loop, first, spare);
            if (first.size() == 0) {
                spread(graph);
            }
        }

        int begunBehind() {
            return behind;
        }

        int numberTaken() {
            return taken;
        }

        boolean reaches(Store graph, Walk loop) {
            Forms.shrink(graph, loop, second, spare);
            if (second.size() != first.size()) {
                return false;
            }
            return first.size() == 0 ? reachesNumber(graph) : reachesSteps(graph);
        }

        private boolean reachesSteps(Store graph) {
            carrier.aim(graph, second);
            for (int i = 0; i < first.size(); i++) {
                Forms.beginBehind(graph, first, i, begun);
                if (begun.sameSteps(second) && findNumber(graph)) {
                    behind = i;
                    return true;
                }
            }
            return false;
        }

        private boolean findNumber(Store graph) {
            int n = graph.orderAt(begun.begin());
            int ahead = begun.numberAt(0);
            int last = begun.lastNumber();
            for (int c = 0; c < n; c++) {
                begun.putNumber(0, rest(ahead - c, n));
                begun.putNumber(begun.size(), rest(last + c, n));
                if (carrier.hits(begun)) {
                    taken = c;
                    return true;
                }
            }
            return false;
        }

        /** Whatever way a number goes along edges, it stays the same share of the order. */
        private boolean reachesNumber(Store graph) {
            int there = second.numberAt(0) * graph.orderAt(first.begin());
            int here = first.numberAt(0) * graph.orderAt(second.begin());
            behind = farOf(second.begin());
            taken = 0;
            return behind >= 0 && there == here;
        }

        private int farOf(int vertex) {
            return vertex < 0 || vertex >= far.length ? NONE : far[vertex];
        }

        private void setFar(int vertex, int distance) {
            if (vertex >= 0 && vertex < far.length) {
                far[vertex] = distance;
            }
        }

        /** How many edges each vertex is from the first core, by those that its number can pass. */
        private void spread(Store graph) {
            int order = orderIn(first.numberAt(0), graph.orderAt(first.begin()));
            Arrays.fill(far, NONE);
            setFar(first.begin(), 0);
            for (int distance = 1; distance < MOST_VERTICES; distance++) {
                for (int s = 0; s < graph.stepKinds(); s++) {
                    if (farOf(graph.fromVertex(s)) == distance - 1 && farOf(graph.toVertex(s)) == NONE
                            && rest(graph.common(s >> 1), order) == 0) {
                        setFar(graph.toVertex(s), distance);
                    }
                }
            }
        }
    }

    /** What the graph is like as a whole: its parts, what is central, its characteristic. */
    private static final class Shape {
        private final int[] leasts = new int[MOST_VERTICES];
        private long over = 0;
        private long under = 1;

        private int leastOf(int vertex) {
            return vertex < 0 || vertex >= leasts.length ? NONE : leasts[vertex];
        }

        private void setLeast(int vertex, int least) {
            if (vertex >= 0 && vertex < leasts.length) {
                leasts[vertex] = least;
            }
        }

        /** Each vertex takes the least vertex that hangs together with it; none is farther than its count. */
        private void join(Store graph) {
            for (int i = 0; i < MOST_VERTICES; i++) {
                setLeast(i, i);
            }
            for (int pass = 1; pass < graph.vertices(); pass++) {
                for (int s = 0; s < graph.stepKinds(); s++) {
                    int from = graph.fromVertex(s);
                    setLeast(from, Math.min(leastOf(from), leastOf(graph.toVertex(s))));
                }
            }
        }

        int parts(Store graph) {
            join(graph);
            int found = 0;
            for (int i = 0; i < graph.vertices(); i++) {
                found += bit(leastOf(i) == i);
            }
            return found;
        }

        /**
         * The greatest divisor of the order and of all that is common along the part's edges. A number
         * passes an edge if its order divides what is common there, and is of the same order behind
         * it; so those are central whose order divides this.
         */
        int centralOrder(Store graph, int vertex) {
            join(graph);
            long divisor = graph.orderAt(vertex);
            for (int i = 0; i < graph.edges(); i++) {
                if (leastOf(graph.edgePart(i, 0)) == leastOf(vertex)) {
                    divisor = greatestDivisor(divisor, graph.common(i));
                }
            }
            return (int) divisor;
        }

        void weigh(Store graph) {
            over = 0;
            under = 1;
            for (int i = 0; i < graph.vertices(); i++) {
                addPart(1, graph.orderAt(i));
            }
            for (int i = 0; i < graph.edges(); i++) {
                addPart(-1, graph.common(i));
            }
        }

        /** In least terms at every moment: below divides the orders' product then, and a long holds it. */
        private void addPart(long part, long n) {
            if (n < 1) {
                return;
            }
            long above = over * n + part * under;
            long below = under * n;
            long divisor = greatestDivisor(above, below);
            over = divisor < 1 ? 0 : above / divisor;
            under = divisor < 1 ? 1 : below / divisor;
        }

        long above() {
            return over;
        }

        long below() {
            return under;
        }
    }

    /** How many places and forms there are, and which form is where. */
    private static final class Counts {
        /** How many ways there are to go on behind a step, for each number of steps that are left. */
        private final long[] ways = new long[(MOST_FAR + 1) * STEP_KINDS];

        private long waysBehind(int left, int step) {
            int i = left * STEP_KINDS + step;
            return left < 0 || step < 0 || step >= STEP_KINDS || i >= ways.length ? 0 : ways[i];
        }

        private void setWays(int left, int step, long count) {
            int i = left * STEP_KINDS + step;
            if (left >= 0 && step >= 0 && step < STEP_KINDS && i < ways.length) {
                ways[i] = count;
            }
        }

        private long waysFrom(Store graph, int vertex, int last, int left) {
            long sum = 0;
            for (int s = 0; s < graph.stepKinds(); s++) {
                if (graph.fromVertex(s) == vertex) {
                    sum = atMostTold(sum + graph.widthBehind(last, s) * waysBehind(left - 1, s));
                }
            }
            return sum;
        }

        private void fillLoops(Store graph, int vertex, int k) {
            int n = graph.orderAt(vertex);
            for (int s = 0; s < graph.stepKinds(); s++) {
                setWays(0, s, graph.toVertex(s) == vertex ? n : 0);
            }
            for (int left = 1; left < k; left++) {
                for (int s = 0; s < graph.stepKinds(); s++) {
                    setWays(left, s, waysFrom(graph, graph.toVertex(s), s, left));
                }
            }
        }

        long loops(Store graph, int vertex, int k) {
            fillLoops(graph, vertex, k);
            return k < 1 ? graph.orderAt(vertex) : waysFrom(graph, vertex, NO_STEP, k);
        }

        /**
         * Places that a number of this order leaves where they are: they hang together, and it passes
         * an edge if its order divides what is common there, and is of the same order behind it. By
         * which coset it passes does not matter, for the numbers of a vertex can be swapped. Number 0,
         * of order 1, leaves all places where they are.
         */
        long held(Store graph, int vertex, int order, int r) {
            long sum = 1;
            for (int k = 1; k <= r; k++) {
                for (int s = 0; s < graph.stepKinds(); s++) {
                    boolean passes = rest(graph.common(s >> 1), order) == 0;
                    long on = k == 1 ? 1 : waysFrom(graph, graph.toVertex(s), s, k - 1);
                    setWays(k - 1, s, passes ? on : 0);
                }
                sum = atMostTold(sum + waysFrom(graph, vertex, NO_STEP, k));
            }
            return sum;
        }

        /** Where a form is listed; what is more than can be told stays at that bound. */
        long placeOf(Store graph, Walk form) {
            int size = form.size();
            fillLoops(graph, form.begin(), size);
            long place = 0;
            int last = NO_STEP;
            for (int i = 0; i < size; i++) {
                int step = form.stepAt(i);
                int left = size - i - 1;
                for (int s = 0; s < step; s++) {
                    if (graph.fromVertex(s) == graph.fromVertex(step)) {
                        place = atMostTold(place + graph.widthBehind(last, s) * waysBehind(left, s));
                    }
                }
                int ahead = form.numberAt(i) - bit(step == opposite(last));
                place = atMostTold(place + ahead * waysBehind(left, step));
                last = step;
            }
            return atMostTold(place + form.lastNumber());
        }

        /** The form that is listed at a place; the place is below loops() of the same sphere. */
        void find(Store graph, int vertex, int k, int place, Walk into) {
            fillLoops(graph, vertex, k);
            long left = place;
            into.start(vertex, 0);
            for (int i = 1; i <= k; i++) {
                left = findStep(graph, k - i, left, into);
            }
            into.putNumber(into.size(), (int) left);
        }

        private long findStep(Store graph, int stepsLeft, long place, Walk into) {
            long left = place;
            int at = graph.endOf(into);
            int last = into.lastStep();
            for (int s = 0; s < graph.stepKinds(); s++) {
                long each = graph.fromVertex(s) == at ? waysBehind(stepsLeft, s) : 0;
                long all = graph.widthBehind(last, s) * each;
                if (each > 0 && left < all) {
                    into.putNumber(into.size(), (int) (left / each) + bit(s == opposite(last)));
                    into.push(s, 0);
                    return left % each;
                }
                left -= all;
            }
            return left;
        }
    }

    /** A text cut into tokens; a place where no token begins is kept as one of its own kind. */
    private static final class Tokens {
        static final int END = 0;
        static final int NO_TOKEN = 1;
        static final int NAME = 2;
        static final int NAME_VERTEX = 3;
        static final int NAME_EDGE = 4;
        static final int NAME_WORD = 5;
        static final int NUMBER = 6;
        static final int FORTH = 7;
        static final int BACKWARDS = 8;
        static final int SEMICOLON = 9;
        private static final int MOST_DIGITS = 3;

        private final int[] kinds = new int[MOST_BYTES + 1];
        private final int[] places = new int[MOST_BYTES + 1];
        private final int[] values = new int[MOST_BYTES + 1];
        private int count = 0;
        private byte[] text = new byte[0];
        private int size = 0;

        int kindAt(int i) {
            return i < 0 || i >= count || i >= kinds.length ? END : kinds[i];
        }

        int placeAt(int i) {
            return i < 0 || i >= count || i >= places.length ? size : places[i];
        }

        int valueAt(int i) {
            return i < 0 || i >= count || i >= values.length ? 0 : values[i];
        }

        void cut(byte[] bytes, int n) {
            text = bytes;
            size = Math.min(n, bytes.length);
            count = 0;
            int at = 0;
            while (at < size) {
                int b = byteAt(at);
                int end = endOfToken(at);
                if (b != 10 && b != 32) {
                    add(at, end);
                }
                at = Math.max(end, at + 1);
            }
        }

        private int byteAt(int i) {
            return i < 0 || i >= size || i >= text.length ? NONE : text[i];
        }

        private static boolean isLetter(int b) {
            return b >= 'a' && b <= 'z';
        }

        private static boolean isDigit(int b) {
            return b >= '0' && b <= '9';
        }

        private int endOfToken(int from) {
            int end = from + 1;
            if (isLetter(byteAt(from))) {
                while (end < size && isLetter(byteAt(end))) {
                    end++;
                }
            } else if (isDigit(byteAt(from))) {
                while (end < size && isDigit(byteAt(end))) {
                    end++;
                }
            }
            return end;
        }

        private void add(int from, int end) {
            if (count < 0 || count >= kinds.length || count >= places.length || count >= values.length) {
                return;
            }
            kinds[count] = kindOf(from, end);
            places[count] = from;
            values[count] = kinds[count] == NUMBER ? numberIn(from, end) : 0;
            count++;
        }

        private int kindOf(int from, int end) {
            int b = byteAt(from);
            if (isDigit(b)) {
                return end - from > MOST_DIGITS ? NO_TOKEN : NUMBER;
            }
            if (!isLetter(b)) {
                return signOf(b);
            }
            if (isText(from, end, "vertex")) {
                return NAME_VERTEX;
            }
            if (isText(from, end, "edge")) {
                return NAME_EDGE;
            }
            return isText(from, end, "word") ? NAME_WORD : NAME;
        }

        private static int signOf(int b) {
            switch (b) {
                case '>':
                    return FORTH;
                case '<':
                    return BACKWARDS;
                case ';':
                    return SEMICOLON;
                default:
                    return NO_TOKEN;
            }
        }

        private boolean isText(int from, int end, String name) {
            if (end - from != name.length()) {
                return false;
            }
            for (int i = 0; i < name.length(); i++) {
                if (byteAt(from + i) != name.charAt(i)) {
                    return false;
                }
            }
            return true;
        }

        private int numberIn(int from, int end) {
            int sum = 0;
            for (int i = from; i < end; i++) {
                sum = 10 * sum + byteAt(i) - '0';
            }
            return sum;
        }
    }

    /** Reads a text into a store of its own; the first fault ends it. */
    private static final class Reader {
        private final Tokens tokens = new Tokens();
        private final Store draft = new Store();
        private final Walk walk = new Walk();
        private boolean hasRead = false;
        private int at = 0;
        private int here = NONE;
        private int lines = 0;
        private int faultKind = 0;
        private int faultPlace = NONE;
        private int faultLine = NONE;

        boolean read(byte[] bytes, int n) {
            hasRead = true;
            at = 0;
            lines = 0;
            faultKind = 0;
            faultPlace = NONE;
            faultLine = NONE;
            draft.clear();
            tokens.cut(bytes, n);
            // each line has a byte at least, so there are no more lines than bytes
            for (int i = 0; i < MOST_BYTES && faultKind == 0 && kind() != Tokens.END; i++) {
                switch (kind()) {
                    case Tokens.NAME_VERTEX:
                        readVertex();
                        break;
                    case Tokens.NAME_EDGE:
                        readEdge();
                        break;
                    default:
                        readWalk();
                        break;
                }
            }
            return faultKind == 0;
        }

        Store result() {
            return draft;
        }

        int tellFault(int what) {
            if (!hasRead) {
                return NONE;
            }
            switch (what) {
                case 0:
                    return faultKind;
                case 1:
                    return faultPlace;
                case 2:
                    return faultLine;
                default:
                    return NONE;
            }
        }

        private int kind() {
            return tokens.kindAt(at);
        }

        private int value() {
            return tokens.valueAt(at);
        }

        /** What does not hold is a fault at this token, but for one that was found ahead of it. */
        private boolean passes(boolean holds, int why) {
            if (!holds && faultKind == 0) {
                faultKind = why;
                faultPlace = tokens.placeAt(at);
                faultLine = lines;
            }
            return faultKind == 0;
        }

        private boolean stands(int due) {
            int found = tokens.kindAt(at);
            return passes(found == due, found == Tokens.NO_TOKEN ? 1 : 2);
        }

        private boolean endsLine() {
            if (!stands(Tokens.SEMICOLON)) {
                return false;
            }
            lines++;
            at++;
            return true;
        }

        private void readVertex() {
            if (!passes(draft.vertices() < MOST_VERTICES, 6)) {
                return;
            }
            at++;
            int order = value();
            if (!stands(Tokens.NUMBER) || !passes(order >= 1 && order <= MOST_ORDER, 4)) {
                return;
            }
            at++;
            if (endsLine()) {
                draft.addVertex(order);
            }
        }

        private void readEdge() {
            if (!passes(draft.edges() < MOST_EDGES, 6)) {
                return;
            }
            at++;
            int u = readPlace();
            int p = readIndex(u, 0);
            int v = readPlace();
            int q = readIndex(v, share(draft.orderAt(u), p));
            if (faultKind == 0 && endsLine()) {
                draft.addEdge(u, p, v, q);
            }
        }

        private int readPlace() {
            int vertex = value();
            if (faultKind != 0 || !stands(Tokens.NUMBER) || !passes(draft.hasVertex(vertex), 3)) {
                return NONE;
            }
            at++;
            return vertex;
        }

        /** The quotient is due at the second vertex of an edge alone; 0 if it is free. */
        private int readIndex(int vertex, int quotient) {
            int index = value();
            if (faultKind != 0 || !stands(Tokens.NUMBER)) {
                return NONE;
            }
            int n = draft.orderAt(vertex);
            boolean divides = index >= 1 && rest(n, index) == 0;
            if (!passes(divides && (quotient == 0 || share(n, index) == quotient), 4)) {
                return NONE;
            }
            at++;
            return index;
        }

        private void readWalk() {
            if (!stands(Tokens.NAME_WORD) || !passes(!draft.isFull(), 6)) {
                return;
            }
            at++;
            here = readPlace();
            walk.start(here, 0);
            readNumber();
            for (int i = 0; i <= MOST_STEPS && isSign(); i++) {
                readStep();
                readNumber();
            }
            if (faultKind == 0 && endsLine()) {
                draft.addWord(walk);
            }
        }

        private boolean isSign() {
            int found = kind();
            return faultKind == 0 && (found == Tokens.FORTH || found == Tokens.BACKWARDS);
        }

        private void readNumber() {
            if (faultKind == 0 && kind() == Tokens.NUMBER) {
                walk.addLast(value(), draft.orderAt(here));
                at++;
            }
        }

        private void readStep() {
            if (!passes(walk.size() < MOST_STEPS, 6)) {
                return;
            }
            int backwards = bit(kind() == Tokens.BACKWARDS);
            at++;
            int step = 2 * value() + backwards;
            if (!stands(Tokens.NUMBER) || !passes(draft.hasEdge(step >> 1), 3)
                    || !passes(draft.fromVertex(step) == here, 5)) {
                return;
            }
            walk.push(step, 0);
            here = draft.toVertex(step);
            at++;
        }
    }

    /** Out: a word as a line of a text. */
    private static final class Teller {
        /** The longest line: ten for the word with its vertex, its number and ; and seven for a step. */
        private final byte[] bytes = new byte[10 + 7 * MOST_STEPS];
        private int count = 0;

        int size() {
            return count;
        }

        int byteAt(int i) {
            return i < 0 || i >= count || i >= bytes.length ? NONE : bytes[i];
        }

        int tellWord(Walk walk) {
            count = 0;
            put('w');
            put('o');
            put('r');
            put('d');
            putNumber(walk.begin());
            putNumber(walk.numberAt(0));
            for (int i = 0; i < walk.size(); i++) {
                put(' ');
                put(isBackwards(walk.stepAt(i)) ? '<' : '>');
                putNumber(walk.stepAt(i) >> 1);
                putNumber(walk.numberAt(i + 1));
            }
            put(';');
            return count;
        }

        private void put(char sign) {
            if (count >= 0 && count < bytes.length) {
                bytes[count] = (byte) sign;
                count++;
            }
        }

        /** Two digits at most: no order is above 60. */
        private void putNumber(int number) {
            put(' ');
            if (number >= 10) {
                put((char) ('0' + rest(share(number, 10), 10)));
            }
            put((char) ('0' + rest(number, 10)));
        }
    }
}
