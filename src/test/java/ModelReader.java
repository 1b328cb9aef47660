import java.util.ArrayList;
import java.util.List;
import java.util.regex.Matcher;
import java.util.regex.Pattern;

/** The model's own reading of a text: tokens by a pattern first, then line after line. */
final class ModelReader {
    private static final Pattern TOKEN = Pattern.compile("[a-z]+|[0-9]+|[><;]|[^ \n]", Pattern.DOTALL);

    final List<Integer> orders = new ArrayList<>();
    final List<Model.Edge> edges = new ArrayList<>();
    final List<Model.Word> words = new ArrayList<>();
    int[] fault = {0, -1, -1};

    private final List<String> tokens = new ArrayList<>();
    private final List<Integer> places = new ArrayList<>();
    private int at = 0;
    private int lines = 0;

    private static final class Found extends RuntimeException {
        private static final long serialVersionUID = 1;
        final int kind;

        Found(int kind) {
            super(null, null, false, false);
            this.kind = kind;
        }
    }

    ModelReader(String text) {
        Matcher m = TOKEN.matcher(text);
        while (m.find()) {
            tokens.add(m.group());
            places.add(m.start());
        }
        tokens.add("");
        places.add(text.length());
        try {
            while (!token().isEmpty()) {
                line();
                lines++;
            }
        } catch (Found f) {
            fault = new int[] {f.kind, places.get(at), lines};
        }
    }

    private String token() {
        String t = tokens.get(at);
        if (!t.isEmpty() && !t.matches("[a-z]+|[0-9]{1,3}|[><;]")) {
            throw new Found(1);
        }
        return t;
    }

    private int number() {
        if (!token().matches("[0-9]+")) {
            throw new Found(2);
        }
        return Integer.parseInt(token());
    }

    private void check(boolean holds, int kind) {
        if (!holds) {
            throw new Found(kind);
        }
    }

    private void line() {
        switch (token()) {
            case "vertex" -> {
                check(orders.size() < 6, 6);
                at++;
                int order = number();
                check(order >= 1 && order <= 60, 4);
                at++;
                semicolon();
                orders.add(order);
            }
            case "edge" -> {
                check(edges.size() < 6, 6);
                at++;
                int u = vertex();
                int p = index(u);
                int v = vertex();
                int q = number();
                check(q > 0 && orders.get(v) % q == 0 && orders.get(v) / q == orders.get(u) / p, 4);
                at++;
                semicolon();
                edges.add(new Model.Edge(u, p, v, q));
            }
            case "word" -> {
                check(words.size() < 10, 6);
                at++;
                word();
            }
            default -> throw new Found(2);
        }
    }

    private void semicolon() {
        check(token().equals(";"), 2);
        at++;
    }

    private int vertex() {
        int v = number();
        check(v < orders.size(), 3);
        at++;
        return v;
    }

    private int index(int vertex) {
        int p = number();
        check(p > 0 && orders.get(vertex) % p == 0, 4);
        at++;
        return p;
    }

    private int optional(int vertex) {
        if (!token().matches("[0-9]+")) {
            return 0;
        }
        int x = number() % orders.get(vertex);
        at++;
        return x;
    }

    private void word() {
        int begin = vertex();
        int here = begin;
        List<Integer> numbers = new ArrayList<>(List.of(optional(here)));
        List<Integer> steps = new ArrayList<>();
        while (token().equals(">") || token().equals("<")) {
            check(steps.size() < 24, 6);
            boolean forth = token().equals(">");
            at++;
            int e = number();
            check(e < edges.size(), 3);
            Model.Edge edge = edges.get(e);
            check((forth ? edge.u() : edge.v()) == here, 5);
            at++;
            steps.add(forth ? 2 * e : 2 * e + 1);
            here = forth ? edge.v() : edge.u();
            numbers.add(optional(here));
        }
        semicolon();
        words.add(new Model.Word(begin, numbers, steps));
    }
}
