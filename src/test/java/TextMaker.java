import java.util.ArrayList;
import java.util.List;
import java.util.Random;

/** Texts of graphs and walks by chance; now and then one that is broken somewhere. */
final class TextMaker {
    private static final int[] ROUND = {1, 2, 3, 4, 6, 8, 12, 5, 10, 30, 60, 7, 9, 24, 36, 48, 59};

    private final Random random;
    private final StringBuilder text = new StringBuilder();
    private final List<Integer> orders = new ArrayList<>();
    private final List<int[]> edges = new ArrayList<>();
    /** Numbers and steps in turn. */
    private List<Integer> loop = List.of();

    TextMaker(Random random) {
        this.random = random;
    }

    String make() {
        int vertices = 1 + random.nextInt(random.nextInt(3) == 0 ? 6 : 3);
        int bound = random.nextInt(3) == 0 ? ROUND.length : 7;
        for (int i = 0; i < vertices; i++) {
            int order = ROUND[random.nextInt(bound)];
            orders.add(order);
            line("vertex", order);
        }
        int count = random.nextInt(random.nextInt(3) == 0 ? 7 : 4);
        for (int i = 0; i < count; i++) {
            edge();
        }
        int words = random.nextInt(8);
        for (int i = 0; i < words && text.length() < 560; i++) {
            word();
        }
        return random.nextInt(4) == 0 ? broken() : text.toString();
    }

    private void blank(boolean must) {
        int kind = random.nextInt(must ? 8 : 12);
        text.append(kind == 0 ? "\n" : kind == 1 ? "  " : kind < 8 && must ? " " : "");
    }

    private void line(String name, int... numbers) {
        text.append(name);
        for (int x : numbers) {
            blank(true);
            text.append(x);
        }
        blank(false);
        text.append(";");
        blank(false);
    }

    private void edge() {
        for (int tries = 0; tries < 50; tries++) {
            int u = random.nextInt(orders.size());
            int v = random.nextInt(orders.size());
            int common = 1 + random.nextInt(12);
            if (orders.get(u) % common == 0 && orders.get(v) % common == 0) {
                int[] e = {u, orders.get(u) / common, v, orders.get(v) / common};
                edges.add(e);
                line("edge", e);
                return;
            }
        }
    }

    private int number(int order) {
        if (random.nextInt(3) == 0) {
            return 0;
        }
        blank(true);
        int number = random.nextInt(6) == 0 ? random.nextInt(1000) : random.nextInt(order);
        text.append(number);
        return number % order;
    }

    /** Many steps that go back at once, so that there is something to pinch; now and then a loop's kin. */
    private void word() {
        if (!loop.isEmpty() && random.nextInt(3) == 0) {
            kin();
            return;
        }
        int at = random.nextInt(orders.size());
        int begin = at;
        text.append("word ").append(at);
        List<Integer> row = new ArrayList<>(List.of(number(orders.get(at))));
        int steps = random.nextInt(random.nextInt(4) == 0 ? 25 : 8);
        int last = -1;
        for (int i = 0; i < 24 && text.length() < 640 && (i < steps || at != begin && random.nextInt(6) > 0); i++) {
            List<Integer> from = new ArrayList<>();
            for (int s = 0; s < 2 * edges.size(); s++) {
                if (edges.get(s / 2)[s % 2 * 2] == at) {
                    from.add(s);
                }
            }
            if (from.isEmpty()) {
                break;
            }
            int s = last >= 0 && random.nextInt(3) == 0 ? last ^ 1 : from.get(random.nextInt(from.size()));
            step(s);
            at = edges.get(s / 2)[2 - s % 2 * 2];
            row.add(s);
            row.add(number(orders.get(at)));
            last = s;
        }
        text.append(";");
        if (at == begin && row.size() > 1) {
            loop = row;
        }
    }

    private void step(int s) {
        blank(false);
        text.append(s % 2 == 0 ? ">" : "<");
        blank(false);
        text.append(s / 2);
    }

    /** The latest loop begun elsewhere, with a number of that vertex ahead and its opposite behind. */
    private void kin() {
        int steps = loop.size() / 2;
        int behind = random.nextInt(steps);
        int first = loop.get(2 * behind + 1);
        int order = orders.get(edges.get(first / 2)[first % 2 * 2]);
        int taken = random.nextInt(order);
        text.append("word ").append(edges.get(first / 2)[first % 2 * 2]);
        text.append(" ").append((loop.get(2 * behind) + order - taken) % order);
        for (int i = 0; i < steps; i++) {
            int j = (behind + i) % steps;
            int s = loop.get(2 * j + 1);
            step(s);
            int n = orders.get(edges.get(s / 2)[2 - s % 2 * 2]);
            boolean isLast = i == steps - 1;
            int ahead = isLast && behind > 0 ? 0 : loop.get(2 * j + 2);
            int seam = j == steps - 1 && !isLast ? loop.get(0) : 0;
            text.append(" ").append((ahead + seam + (isLast ? taken : 0)) % n);
        }
        text.append(";");
    }

    private String broken() {
        String whole = text.toString();
        int cut = random.nextInt(whole.length());
        switch (random.nextInt(6)) {
            case 0:
                return whole.substring(0, cut);
            case 1:
                return whole.substring(0, cut) + whole.substring(cut + 1);
            case 2:
                return whole.substring(0, cut) + (char) random.nextInt(256) + whole.substring(cut + 1);
            case 3:
                return whole.substring(0, cut) + random.nextInt(70) + whole.substring(cut);
            case 4:
                String[] more = {"vertex 6;", "edge 0 1 0 1;", "word 0;", "> 0", "< 0", ";", "vertex", "1234", "A"};
                return whole + more[random.nextInt(more.length)].repeat(1 + random.nextInt(12));
            default:
                return whole + " word 0" + " > 0".repeat(20 + random.nextInt(8)) + ";";
        }
    }
}
