import java.math.BigInteger;
import java.util.ArrayDeque;
import java.util.ArrayList;
import java.util.Arrays;
import java.util.HashMap;
import java.util.List;
import java.util.Map;
import java.util.TreeMap;

/**
 * The document once more, slowly and by other ways than the class goes: forms by taking out any pinch
 * and cutting down afterwards, kin and central by trying all, counts by big numbers.
 */
final class Model {
    static final int NONE = -1;
    private static final BigInteger MOST = BigInteger.valueOf(1_000_000_000_000L);

    record Edge(int u, int p, int v, int q) {
    }

    /** steps as step() tells them; numbers are one more. */
    record Word(int begin, List<Integer> numbers, List<Integer> steps) {
    }

    record State(List<Integer> orders, List<Edge> edges, List<Word> words) {
    }

    record Mark(State state, List<State> past) {
    }

    private State now = new State(List.of(), List.of(), List.of());
    private List<State> past = new ArrayList<>();
    private final List<Mark> marks = new ArrayList<>();
    private final ArrayList<Byte> tape = new ArrayList<>();
    private int status = 0;
    private int[] fault = null;
    private String out = "";

    // ---- the graph

    private int n(int vertex) {
        return now.orders.get(vertex);
    }

    private int from(int s) {
        Edge e = now.edges.get(s / 2);
        return s % 2 == 0 ? e.u : e.v;
    }

    private int to(int s) {
        return from(s ^ 1);
    }

    private int indexFrom(int s) {
        Edge e = now.edges.get(s / 2);
        return s % 2 == 0 ? e.p : e.q;
    }

    private int indexTo(int s) {
        return indexFrom(s ^ 1);
    }

    private int end(Word w) {
        return w.steps.isEmpty() ? w.begin : to(w.steps.get(w.steps.size() - 1));
    }

    private boolean isLoop(Word w) {
        return end(w) == w.begin;
    }

    private int vertexAt(Word w, int i) {
        return i == 0 ? w.begin : to(w.steps.get(i - 1));
    }

    // ---- forms

    Word form(Word w) {
        List<Integer> numbers = new ArrayList<>(w.numbers);
        List<Integer> steps = new ArrayList<>(w.steps);
        boolean found = true;
        while (found) {
            found = false;
            // from behind, so that pinches come in another order than the class takes them
            for (int i = steps.size() - 2; i >= 0; i--) {
                int s = steps.get(i);
                if (steps.get(i + 1) == (s ^ 1) && numbers.get(i + 1) % indexTo(s) == 0) {
                    int more = numbers.get(i + 1) / indexTo(s) * indexFrom(s) + numbers.get(i) + numbers.get(i + 2);
                    int vertex = from(s);
                    steps.subList(i, i + 2).clear();
                    numbers.subList(i, i + 3).clear();
                    numbers.add(i, more % n(vertex));
                    found = true;
                    break;
                }
            }
        }
        for (int i = 0; i < steps.size(); i++) {
            int s = steps.get(i);
            int k = numbers.get(i) / indexFrom(s);
            numbers.set(i, numbers.get(i) % indexFrom(s));
            numbers.set(i + 1, (numbers.get(i + 1) + k * indexTo(s)) % n(to(s)));
        }
        return new Word(w.begin, numbers, steps);
    }

    private Word joined(Word a, Word b) {
        List<Integer> numbers = new ArrayList<>(a.numbers);
        int seam = numbers.remove(numbers.size() - 1);
        numbers.add((seam + b.numbers.get(0)) % n(b.begin));
        numbers.addAll(b.numbers.subList(1, b.numbers.size()));
        List<Integer> steps = new ArrayList<>(a.steps);
        steps.addAll(b.steps);
        return new Word(a.begin, numbers, steps);
    }

    private Word turnedRaw(Word w) {
        List<Integer> numbers = new ArrayList<>();
        List<Integer> steps = new ArrayList<>();
        for (int i = w.steps.size(); i >= 0; i--) {
            int size = n(vertexAt(w, i));
            numbers.add((size - w.numbers.get(i)) % size);
            if (i > 0) {
                steps.add(w.steps.get(i - 1) ^ 1);
            }
        }
        return new Word(end(w), numbers, steps);
    }

    private Word product(Word a, Word b) {
        return form(joined(a, b));
    }

    private Word core(Word loop) {
        Word w = form(loop);
        while (!w.steps.isEmpty()) {
            int size = w.steps.size();
            int first = w.steps.get(0);
            int sum = (w.numbers.get(0) + w.numbers.get(size)) % n(w.begin);
            if (w.steps.get(size - 1) != (first ^ 1) || sum % indexFrom(first) != 0) {
                return w;
            }
            List<Integer> numbers = new ArrayList<>(w.numbers.subList(1, size));
            int last = numbers.remove(numbers.size() - 1);
            numbers.add((last + sum / indexFrom(first) * indexTo(first)) % n(to(first)));
            w = form(new Word(to(first), numbers, new ArrayList<>(w.steps.subList(1, size - 1))));
        }
        return w;
    }

    private int orderOfNumber(int vertex, int number) {
        int sum = number;
        for (int m = 1; ; m++) {
            if (sum % n(vertex) == 0) {
                return m;
            }
            sum += number;
        }
    }

    /** Fewest steps and least number, or null if two loops are not kin. */
    private int[] kinship(Word a, Word b) {
        Word x = core(a);
        Word y = core(b);
        if (x.steps.size() != y.steps.size()) {
            return null;
        }
        return x.steps.isEmpty() ? kinshipOfNumbers(x, y) : kinshipOfSteps(x, y);
    }

    private int[] kinshipOfNumbers(Word x, Word y) {
        Map<List<Integer>, Integer> far = new HashMap<>();
        ArrayDeque<List<Integer>> queue = new ArrayDeque<>();
        List<Integer> start = List.of(x.begin, x.numbers.get(0));
        far.put(start, 0);
        queue.add(start);
        while (!queue.isEmpty()) {
            List<Integer> at = queue.remove();
            for (int s = 0; s < 2 * now.edges.size(); s++) {
                if (from(s) == at.get(0) && at.get(1) % indexFrom(s) == 0) {
                    List<Integer> next = List.of(to(s), at.get(1) / indexFrom(s) * indexTo(s));
                    if (!far.containsKey(next)) {
                        far.put(next, far.get(at) + 1);
                        queue.add(next);
                    }
                }
            }
        }
        Integer found = far.get(List.of(y.begin, y.numbers.get(0)));
        return found == null ? null : new int[] {found, 0};
    }

    private int[] kinshipOfSteps(Word x, Word y) {
        for (int j = 0; j < x.steps.size(); j++) {
            int vertex = vertexAt(x, j);
            Word head = new Word(x.begin, new ArrayList<>(x.numbers.subList(0, j + 1)), x.steps.subList(0, j));
            head.numbers.set(j, 0);
            Word tail = new Word(vertex, x.numbers.subList(j, x.numbers.size()), x.steps.subList(j, x.steps.size()));
            Word begun = j == 0 ? x : joined(tail, head);
            for (int c = 0; c < n(vertex); c++) {
                Word ahead = new Word(vertex, List.of((n(vertex) - c) % n(vertex)), List.of());
                Word behind = new Word(vertex, List.of(c), List.of());
                if (form(joined(joined(ahead, begun), behind)).equals(y)) {
                    return new int[] {j, c};
                }
            }
        }
        return null;
    }

    private List<Integer> component(int vertex) {
        boolean[] in = new boolean[now.orders.size()];
        in[vertex] = true;
        for (int pass = 0; pass < 10; pass++) {
            for (Edge e : now.edges) {
                in[e.u] |= in[e.v];
                in[e.v] |= in[e.u];
            }
        }
        List<Integer> all = new ArrayList<>();
        for (int i = 0; i < in.length; i++) {
            if (in[i]) {
                all.add(i);
            }
        }
        return all;
    }

    /** Goes from edge to edge that meets what is fixed already, with the k that is due there. */
    private boolean isCentral(int vertex, int number) {
        Map<Integer, Integer> fixed = new HashMap<>();
        fixed.put(vertex, number);
        List<Integer> part = component(vertex);
        boolean grows = true;
        while (grows) {
            grows = false;
            for (Edge e : now.edges) {
                if (!part.contains(e.u)) {
                    continue;
                }
                for (int k = 0; k < n(e.u) / e.p; k++) {
                    if (fixed.containsKey(e.u) && fixed.get(e.u) == k * e.p && !fixed.containsKey(e.v)) {
                        fixed.put(e.v, k * e.q);
                        grows = true;
                    } else if (fixed.containsKey(e.v) && fixed.get(e.v) == k * e.q && !fixed.containsKey(e.u)) {
                        fixed.put(e.u, k * e.p);
                        grows = true;
                    }
                }
            }
        }
        for (Edge e : now.edges) {
            if (!part.contains(e.u)) {
                continue;
            }
            boolean fits = false;
            for (int k = 0; k < n(e.u) / e.p; k++) {
                fits |= fixed.getOrDefault(e.u, NONE) == k * e.p && fixed.getOrDefault(e.v, NONE) == k * e.q;
            }
            if (!fits) {
                return false;
            }
        }
        return true;
    }

    private int rootOf(Word core) {
        int size = core.steps.size();
        for (int m = size; m > 1; m--) {
            if (size % m != 0 || vertexAt(core, size / m) != core.begin) {
                continue;
            }
            for (int last = 0; last < n(core.begin); last++) {
                List<Integer> numbers = new ArrayList<>(core.numbers.subList(0, size / m));
                numbers.add(last);
                Word part = new Word(core.begin, numbers, core.steps.subList(0, size / m));
                Word all = form(part);
                for (int i = 1; i < m; i++) {
                    all = product(all, part);
                }
                if (all.equals(core)) {
                    return m;
                }
            }
        }
        return 1;
    }

    // ---- counts

    /** How many forms but for their last number, of k steps, for each last step; those that a number lets be. */
    private Map<List<Integer>, BigInteger> paths(int vertex, int number, int k) {
        Map<List<Integer>, BigInteger> row = new TreeMap<>((a, b) -> Arrays.compare(
                new int[] {a.get(0), a.get(1)}, new int[] {b.get(0), b.get(1)}));
        row.put(List.of(NONE, number), BigInteger.ONE);
        for (int i = 0; i < k; i++) {
            Map<List<Integer>, BigInteger> next = new TreeMap<>(((TreeMap<List<Integer>, BigInteger>) row).comparator());
            for (Map.Entry<List<Integer>, BigInteger> entry : row.entrySet()) {
                int last = entry.getKey().get(0);
                int x = entry.getKey().get(1);
                int at = last == NONE ? vertex : to(last);
                for (int s = 0; s < 2 * now.edges.size(); s++) {
                    if (from(s) != at || x % indexFrom(s) != 0) {
                        continue;
                    }
                    int wide = indexFrom(s) - (last != NONE && s == (last ^ 1) ? 1 : 0);
                    next.merge(List.of(s, x / indexFrom(s) * indexTo(s)),
                            entry.getValue().multiply(BigInteger.valueOf(wide)), BigInteger::add);
                }
            }
            row = next;
        }
        return row;
    }

    private BigInteger heldWithin(int vertex, int number, int r) {
        BigInteger sum = BigInteger.ZERO;
        for (int k = 0; k <= r; k++) {
            for (BigInteger b : paths(vertex, number, k).values()) {
                sum = sum.add(b);
            }
        }
        return sum;
    }

    private BigInteger loopsOf(int vertex, int k) {
        BigInteger sum = BigInteger.ZERO;
        for (Map.Entry<List<Integer>, BigInteger> e : paths(vertex, 0, k).entrySet()) {
            int last = e.getKey().get(0);
            if ((last == NONE ? vertex : to(last)) == vertex) {
                sum = sum.add(e.getValue());
            }
        }
        return sum.multiply(BigInteger.valueOf(n(vertex)));
    }

    /** How many forms go on from a vertex behind a step with so many steps to a vertex. */
    private BigInteger rests(int at, int last, int left, int goal) {
        if (left == 0) {
            return at == goal ? BigInteger.valueOf(n(goal)) : BigInteger.ZERO;
        }
        List<Integer> key = List.of(at, last, left, goal);
        BigInteger known = memory.get(key);
        if (known != null) {
            return known;
        }
        BigInteger sum = BigInteger.ZERO;
        for (int s = 0; s < 2 * now.edges.size(); s++) {
            if (from(s) == at) {
                int wide = indexFrom(s) - (last != NONE && s == (last ^ 1) ? 1 : 0);
                sum = sum.add(rests(to(s), s, left - 1, goal).multiply(BigInteger.valueOf(wide)));
            }
        }
        memory.put(key, sum);
        return sum;
    }

    private final Map<List<Integer>, BigInteger> memory = new HashMap<>();

    private BigInteger rank(Word w) {
        memory.clear();
        BigInteger sum = BigInteger.ZERO;
        int size = w.steps.size();
        int last = NONE;
        for (int i = 0; i < size; i++) {
            int at = vertexAt(w, i);
            for (int s = 0; s <= w.steps.get(i); s++) {
                if (from(s) != at) {
                    continue;
                }
                int most = s == w.steps.get(i) ? w.numbers.get(i) : indexFrom(s);
                for (int a = 0; a < most; a++) {
                    if (a > 0 || last == NONE || s != (last ^ 1)) {
                        sum = sum.add(rests(to(s), s, size - i - 1, w.begin));
                    }
                }
            }
            last = w.steps.get(i);
        }
        return sum.add(BigInteger.valueOf(w.numbers.get(size)));
    }

    private Word unrank(int vertex, int k, int place) {
        memory.clear();
        BigInteger left = BigInteger.valueOf(place);
        List<Integer> numbers = new ArrayList<>();
        List<Integer> steps = new ArrayList<>();
        int at = vertex;
        int last = NONE;
        for (int i = 0; i < k; i++) {
            boolean found = false;
            for (int s = 0; s < 2 * now.edges.size() && !found; s++) {
                for (int a = 0; from(s) == at && a < indexFrom(s) && !found; a++) {
                    if (a == 0 && last != NONE && s == (last ^ 1)) {
                        continue;
                    }
                    BigInteger each = rests(to(s), s, k - i - 1, vertex);
                    if (left.compareTo(each) < 0) {
                        numbers.add(a);
                        steps.add(s);
                        found = true;
                    } else {
                        left = left.subtract(each);
                    }
                }
            }
            last = steps.get(i);
            at = to(last);
        }
        numbers.add(left.intValueExact());
        return new Word(vertex, numbers, steps);
    }

    private static long told(BigInteger b) {
        return b.min(MOST).longValueExact();
    }

    // ---- the calls

    private int no(int why) {
        status = why;
        return NONE;
    }

    private int yes(int answer) {
        status = 0;
        return answer;
    }

    private long yes(long answer) {
        status = 0;
        return answer;
    }

    private void act(State next) {
        past = new ArrayList<>(past);
        past.add(now);
        if (past.size() > 8) {
            past.remove(0);
        }
        now = next;
    }

    private int keep(Word w) {
        List<Word> words = new ArrayList<>(now.words);
        words.add(w);
        act(new State(now.orders, now.edges, words));
        return yes(words.size() - 1);
    }

    private boolean isWord(int... words) {
        for (int w : words) {
            if (w < 0 || w >= now.words.size()) {
                return false;
            }
        }
        return true;
    }

    private boolean isVertex(int v) {
        return v >= 0 && v < now.orders.size();
    }

    private Word get(int w) {
        return now.words.get(w);
    }

    private boolean full() {
        return now.words.size() == 10;
    }

    public int status() {
        return status;
    }

    public int feed(int a, int b, int c, int d, int e) {
        if (tape.size() + 20 > 700) {
            return NONE;
        }
        for (int x : new int[] {a, b, c, d, e}) {
            tape.add((byte) (x >>> 24));
            tape.add((byte) (x >>> 16));
            tape.add((byte) (x >>> 8));
            tape.add((byte) x);
        }
        return tape.size();
    }

    public int load(int n) {
        if (n < 0 || n > tape.size()) {
            return no(1);
        }
        StringBuilder text = new StringBuilder();
        for (byte b : tape.subList(0, n)) {
            text.append((char) (b & 255));
        }
        tape.clear();
        ModelReader reader = new ModelReader(text.toString());
        fault = reader.fault;
        if (fault[0] != 0) {
            return no(9);
        }
        act(new State(reader.orders, reader.edges, reader.words));
        return yes(now.words.size());
    }

    public int fault(int what) {
        return fault == null || what < 0 || what > 2 ? NONE : fault[what];
    }

    private int parts() {
        int found = 0;
        for (int i = 0; i < now.orders.size(); i++) {
            found += component(i).get(0) == i ? 1 : 0;
        }
        return found;
    }

    public int many(int what) {
        int[] all = {now.orders.size(), now.edges.size(), now.words.size(), past.size(), marks.size(),
            now.edges.size() - now.orders.size() + parts(), parts()};
        return what < 0 || what >= all.length ? no(1) : yes(all[what]);
    }

    public int order(int vertex) {
        return isVertex(vertex) ? yes(n(vertex)) : no(2);
    }

    public int edge(int edge, int what) {
        if (what < 0 || what > 4) {
            return no(1);
        }
        if (edge < 0 || edge >= now.edges.size()) {
            return no(2);
        }
        Edge e = now.edges.get(edge);
        return yes(new int[] {e.u, e.p, e.v, e.q, n(e.v) / e.q}[what]);
    }

    public int word(int word, int what) {
        if (what < 0 || what > 4) {
            return no(1);
        }
        if (!isWord(word)) {
            return no(2);
        }
        Word w = get(word);
        Word f = form(w);
        return yes(new int[] {w.begin, end(w), w.steps.size(), w.equals(f) ? 1 : 0,
            (w.steps.size() - f.steps.size()) / 2}[what]);
    }

    public int number(int word, int i) {
        if (i < 0) {
            return no(1);
        }
        if (!isWord(word)) {
            return no(2);
        }
        return i < get(word).numbers.size() ? yes(get(word).numbers.get(i)) : no(5);
    }

    public int step(int word, int i) {
        if (i < 0) {
            return no(1);
        }
        if (!isWord(word)) {
            return no(2);
        }
        return i < get(word).steps.size() ? yes(get(word).steps.get(i)) : no(5);
    }

    public int take(int vertex, int number) {
        if (number < 0) {
            return no(1);
        }
        if (!isVertex(vertex)) {
            return no(2);
        }
        return full() ? no(3) : keep(new Word(vertex, List.of(number % n(vertex)), List.of()));
    }

    public int form(int word) {
        if (!isWord(word)) {
            return no(2);
        }
        List<Word> words = new ArrayList<>(now.words);
        words.set(word, form(get(word)));
        act(new State(now.orders, now.edges, words));
        return yes(words.get(word).steps.size());
    }

    public int times(int word, int other) {
        if (!isWord(word, other)) {
            return no(2);
        }
        if (full()) {
            return no(3);
        }
        if (end(get(word)) != get(other).begin) {
            return no(4);
        }
        Word w = product(get(word), get(other));
        return w.steps.size() > 24 ? no(6) : keep(w);
    }

    public int turned(int word) {
        if (!isWord(word)) {
            return no(2);
        }
        return full() ? no(3) : keep(form(turnedRaw(get(word))));
    }

    public int power(int word, int m) {
        if (m < -9 || m > 9) {
            return no(1);
        }
        if (!isWord(word)) {
            return no(2);
        }
        if (full()) {
            return no(3);
        }
        Word w = get(word);
        if (!isLoop(w)) {
            return no(4);
        }
        Word all = new Word(w.begin, List.of(0), List.of());
        for (int i = 0; i < Math.abs(m); i++) {
            all = product(all, m > 0 ? w : turnedRaw(w));
            if (all.steps.size() > 24) {
                return no(6);
            }
        }
        return keep(all);
    }

    public int core(int word) {
        if (!isWord(word)) {
            return no(2);
        }
        if (full()) {
            return no(3);
        }
        return isLoop(get(word)) ? keep(core(get(word))) : no(4);
    }

    public int spell(int vertex, int k, int i) {
        if (k < 0 || k > 12 || i < 0) {
            return no(1);
        }
        if (!isVertex(vertex)) {
            return no(2);
        }
        if (full()) {
            return no(3);
        }
        return loopsOf(vertex, k).compareTo(BigInteger.valueOf(i)) <= 0 ? no(5) : keep(unrank(vertex, k, i));
    }

    public int drop(int word) {
        if (!isWord(word)) {
            return no(2);
        }
        List<Word> words = new ArrayList<>(now.words);
        words.remove(word);
        act(new State(now.orders, now.edges, words));
        return yes(words.size());
    }

    public int undo() {
        if (past.isEmpty()) {
            return no(5);
        }
        past = new ArrayList<>(past);
        now = past.remove(past.size() - 1);
        return yes(past.size());
    }

    public int mark() {
        if (marks.size() == 3) {
            return no(3);
        }
        marks.add(new Mark(now, past));
        return yes(marks.size());
    }

    public int back() {
        if (marks.isEmpty()) {
            return no(5);
        }
        Mark m = marks.remove(marks.size() - 1);
        now = m.state;
        past = m.past;
        return yes(marks.size());
    }

    public int alike(int word, int other) {
        return isWord(word, other) ? yes(form(get(word)).equals(form(get(other))) ? 1 : 0) : no(2);
    }

    public int steps(int word) {
        return isWord(word) ? yes(form(get(word)).steps.size()) : no(2);
    }

    private int loopStatus(int... words) {
        if (!isWord(words)) {
            return 2;
        }
        for (int w : words) {
            if (!isLoop(get(w))) {
                return 4;
            }
        }
        return 0;
    }

    public int length(int word) {
        int bad = loopStatus(word);
        return bad != 0 ? no(bad) : yes(core(get(word)).steps.size());
    }

    public int orderOf(int word) {
        int bad = loopStatus(word);
        if (bad != 0) {
            return no(bad);
        }
        Word c = core(get(word));
        return yes(c.steps.isEmpty() ? orderOfNumber(c.begin, c.numbers.get(0)) : 0);
    }

    public int kin(int word, int other) {
        int bad = loopStatus(word, other);
        return bad != 0 ? no(bad) : yes(kinship(get(word), get(other)) == null ? 0 : 1);
    }

    public int kinBy(int word, int other, int what) {
        if (what != 0 && what != 1) {
            return no(1);
        }
        int bad = loopStatus(word, other);
        if (bad != 0) {
            return no(bad);
        }
        int[] by = kinship(get(word), get(other));
        return by == null ? no(5) : yes(by[what]);
    }

    public int kins(int word) {
        int bad = loopStatus(word);
        if (bad != 0) {
            return no(bad);
        }
        int set = 0;
        for (int i = 0; i < now.words.size(); i++) {
            set |= isLoop(get(i)) && kinship(get(word), get(i)) != null ? 1 << i : 0;
        }
        return yes(set);
    }

    public int net(int word, int edge) {
        if (!isWord(word) || edge < 0 || edge >= now.edges.size()) {
            return no(2);
        }
        int sum = 0;
        for (int s : get(word).steps) {
            sum += s == 2 * edge ? 1 : s == 2 * edge + 1 ? -1 : 0;
        }
        return yes(sum);
    }

    public int central(int vertex, int number) {
        if (number < 0 || isVertex(vertex) && number >= n(vertex)) {
            return no(1);
        }
        return isVertex(vertex) ? yes(isCentral(vertex, number) ? 1 : 0) : no(2);
    }

    public int centre(int vertex) {
        if (!isVertex(vertex)) {
            return no(2);
        }
        int sum = 0;
        for (int i = 0; i < n(vertex); i++) {
            sum += isCentral(vertex, i) ? 1 : 0;
        }
        return yes(sum);
    }

    public int having(int vertex, int order) {
        if (order < 1) {
            return no(1);
        }
        if (!isVertex(vertex)) {
            return no(2);
        }
        int sum = 0;
        for (int i = 0; i < n(vertex); i++) {
            sum += orderOfNumber(vertex, i) == order ? 1 : 0;
        }
        return yes(sum);
    }

    public int root(int word) {
        int bad = loopStatus(word);
        if (bad != 0) {
            return no(bad);
        }
        Word c = core(get(word));
        return c.steps.isEmpty() ? no(5) : yes(rootOf(c));
    }

    public int swaps(int word, int other) {
        int bad = loopStatus(word, other);
        if (bad != 0) {
            return no(bad);
        }
        if (get(word).begin != get(other).begin) {
            return no(4);
        }
        return yes(product(get(word), get(other)).equals(product(get(other), get(word))) ? 1 : 0);
    }

    public int alikes(int word) {
        if (!isWord(word)) {
            return no(2);
        }
        int set = 0;
        for (int i = 0; i < now.words.size(); i++) {
            set |= form(get(i)).equals(form(get(word))) ? 1 << i : 0;
        }
        return yes(set);
    }

    public int twin(int word) {
        if (!isWord(word)) {
            return no(2);
        }
        for (int i = 0; i < now.words.size(); i++) {
            if (i != word && form(get(i)).equals(form(get(word)))) {
                return yes(i);
            }
        }
        return no(5);
    }

    private Word wayOf(Word a, Word b) {
        return product(turnedRaw(a), b);
    }

    public int apart(int word, int other) {
        if (!isWord(word, other)) {
            return no(2);
        }
        return get(word).begin != get(other).begin ? no(4) : yes(wayOf(get(word), get(other)).steps.size());
    }

    public int moves(int loop, int word) {
        if (!isWord(loop, word)) {
            return no(2);
        }
        if (!isLoop(get(loop)) || get(loop).begin != get(word).begin) {
            return no(4);
        }
        return yes(wayOf(get(word), product(get(loop), get(word))).steps.size());
    }

    public int way(int word, int other, int i) {
        if (i < 0) {
            return no(1);
        }
        if (!isWord(word, other)) {
            return no(2);
        }
        if (get(word).begin != get(other).begin) {
            return no(4);
        }
        Word w = wayOf(get(word), get(other));
        return i > w.steps.size() ? no(5) : yes(vertexAt(w, i));
    }

    public long holds(int loop, int r) {
        if (r < 0 || r > 12) {
            return no(1);
        }
        int bad = loopStatus(loop);
        if (bad != 0) {
            return no(bad);
        }
        Word c = core(get(loop));
        return c.steps.isEmpty() ? yes(told(heldWithin(c.begin, c.numbers.get(0), r))) : no(5);
    }

    public int axis(int loop, int i) {
        if (i < 0) {
            return no(1);
        }
        int bad = loopStatus(loop);
        if (bad != 0) {
            return no(bad);
        }
        Word c = core(get(loop));
        return c.steps.isEmpty() ? no(5) : yes(vertexAt(c, i % c.steps.size()));
    }

    public long ball(int vertex, int r) {
        if (r < 0 || r > 12) {
            return no(1);
        }
        return isVertex(vertex) ? yes(told(heldWithin(vertex, 0, r))) : no(2);
    }

    public long sphere(int vertex, int k) {
        if (k < 0 || k > 12) {
            return no(1);
        }
        return isVertex(vertex) ? yes(told(loopsOf(vertex, k))) : no(2);
    }

    public long listed(int loop) {
        int bad = loopStatus(loop);
        if (bad != 0) {
            return no(bad);
        }
        Word f = form(get(loop));
        return f.steps.size() > 12 ? no(5) : yes(told(rank(f)));
    }

    public int near(int word, int r) {
        if (r < 0 || r > 99) {
            return no(1);
        }
        if (!isWord(word)) {
            return no(2);
        }
        int set = 0;
        for (int i = 0; i < now.words.size(); i++) {
            if (get(i).begin == get(word).begin && wayOf(get(word), get(i)).steps.size() <= r) {
                set |= 1 << i;
            }
        }
        return yes(set);
    }

    public int meet(int vertex) {
        if (!isVertex(vertex)) {
            return no(2);
        }
        int sum = 0;
        for (Edge e : now.edges) {
            sum += (e.u == vertex ? e.p : 0) + (e.v == vertex ? e.q : 0);
        }
        return yes(sum);
    }

    public int tell(int word) {
        if (!isWord(word)) {
            return no(2);
        }
        Word w = get(word);
        out = "word " + w.begin + " " + w.numbers.get(0);
        for (int i = 0; i < w.steps.size(); i++) {
            out += (w.steps.get(i) % 2 == 0 ? " > " : " < ") + w.steps.get(i) / 2 + " " + w.numbers.get(i + 1);
        }
        out += ";";
        return yes(out.length());
    }

    public int out(int i) {
        if (i < 0) {
            return no(1);
        }
        return i < out.length() ? yes((int) out.charAt(i)) : no(5);
    }

    public int chi(int what) {
        if (what != 0 && what != 1) {
            return no(1);
        }
        BigInteger below = BigInteger.ONE;
        for (int o : now.orders) {
            below = below.multiply(BigInteger.valueOf(o));
        }
        BigInteger above = BigInteger.ZERO;
        for (int o : now.orders) {
            above = above.add(below.divide(BigInteger.valueOf(o)));
        }
        for (Edge e : now.edges) {
            above = above.subtract(below.divide(BigInteger.valueOf(n(e.u) / e.p)));
        }
        BigInteger both = above.gcd(below);
        return yes((what == 0 ? above : below).divide(both).intValue());
    }
}
