import java.util.ArrayList;
import java.util.Arrays;
import java.util.List;

/** On small graphs all words are gone through: what is claimed of all of them is counted out. */
public final class BruteTest {
    private static final String[] GRAPHS = {
        "vertex 4;vertex 6;edge 0 2 1 3;",
        "vertex 2;vertex 3;edge 0 2 1 3;",
        "vertex 4;edge 0 2 0 2;",
        "vertex 3;vertex 1;edge 0 1 0 1;edge 0 3 1 1;",
        "vertex 2;vertex 4;edge 0 1 1 2;edge 1 4 0 2;"};
    private static final Check check = new Check();

    private final String graph;
    private final GluedWords shape;

    private BruteTest(String graph) {
        this.graph = graph;
        this.shape = Check.made(graph);
    }

    public static void main(String[] args) {
        for (String graph : GRAPHS) {
            BruteTest test = new BruteTest(graph);
            test.spheres();
            test.roots();
            test.placesAndHeld();
        }
        check.end();
    }

    // ---- forms of a sphere, as rows: step, number ahead, step, number ahead .. last number

    private int[] row(GluedWords x, int word) {
        int size = x.word(word, 2);
        int[] all = new int[2 * size + 1];
        for (int i = 0; i < size; i++) {
            all[2 * i] = x.step(word, i);
            all[2 * i + 1] = x.number(word, i);
        }
        all[2 * size] = x.number(word, size);
        return all;
    }

    private void spheres() {
        for (int k = 0; k <= 3; k++) {
            List<int[]> forms = new ArrayList<>();
            GluedWords x = Check.made(graph);
            for (int i = 0; x.spell(0, k, i) >= 0; i++) {
                check.due(9, "is a form", x.word(0, 3), 1);
                check.due(45, graph + " listed of " + i, x.listed(0), i);
                forms.add(row(x, 0));
                x.drop(0);
            }
            check.due(44, graph + " sphere(0, " + k + ")", x.sphere(0, k), forms.size());
            for (int i = 1; i < forms.size(); i++) {
                check.due(18, graph + " by the order of the document", Arrays.compare(forms.get(i - 1), forms.get(i)) < 0 ? 1 : 0, 1);
            }
            int found = 0;
            for (String word : words(0, k)) {
                GluedWords y = Check.made(graph + word);
                if (y.word(0, 0) == y.word(0, 1) && y.word(0, 2) == k && y.steps(0) == k && y.word(0, 3) == 1) {
                    found++;
                    int[] mine = row(y, 0);
                    check.due(45, graph + word, y.listed(0) < forms.size() && Arrays.equals(mine, forms.get((int) y.listed(0))) ? 1 : 0, 1);
                }
            }
            check.due(44, graph + " forms among all words of " + k, found, forms.size());
        }
    }

    /** All words from a vertex of just so many steps, as lines. */
    private List<String> words(int vertex, int k) {
        List<String> all = new ArrayList<>();
        grow("word " + vertex, vertex, k, all);
        return all;
    }

    private void grow(String line, int at, int left, List<String> all) {
        for (int a = 0; a < shape.order(at); a++) {
            String next = line + " " + a;
            if (left == 0) {
                all.add(next + ";");
                continue;
            }
            for (int e = 0; e < shape.many(1); e++) {
                if (shape.edge(e, 0) == at) {
                    grow(next + " > " + e, shape.edge(e, 2), left - 1, all);
                }
                if (shape.edge(e, 2) == at) {
                    grow(next + " < " + e, shape.edge(e, 0), left - 1, all);
                }
            }
        }
    }

    // ---- roots

    private void roots() {
        for (int k = 1; k <= 4; k++) {
            GluedWords x = Check.made(graph);
            for (int i = 0; i < 60 && x.spell(0, k, i) >= 0; i++) {
                if (x.length(0) == k) {
                    check.due(34, graph + " root of " + Check.told(x, 0), x.root(0), bruteRoot(x, k));
                }
                x.drop(0);
            }
        }
    }

    private int bruteRoot(GluedWords x, int k) {
        int best = 1;
        for (int size = 0; size <= k; size++) {
            for (int i = 0; x.spell(0, size, i) >= 0; i++) {
                for (int m = 2; m <= 6; m++) {
                    if (x.power(1, m) >= 0) {
                        best = x.alike(2, 0) == 1 ? Math.max(best, m) : best;
                        x.drop(2);
                    }
                }
                x.drop(1);
            }
        }
        return best;
    }

    // ---- places

    private void placesAndHeld() {
        List<String> places = new ArrayList<>();
        for (int r = 0; r <= 2; r++) {
            for (String word : words(0, r)) {
                if (isNew(places, word)) {
                    places.add(word);
                }
            }
            // all words of r steps lead no farther than r, and one of each place is there
            check.due(43, graph + " ball(0, " + r + ")", shape.ball(0, r), within(places, r));
        }
        for (int s = 0; s < shape.order(0); s++) {
            for (int r = 0; r <= 2; r++) {
                int held = 0;
                for (String place : places) {
                    GluedWords x = Check.made(graph + "word 0 " + s + ";word 0;" + place);
                    held += x.moves(0, 2) == 0 && x.apart(1, 2) <= r ? 1 : 0;
                }
                GluedWords x = Check.made(graph + "word 0 " + s + ";");
                check.due(41, graph + " holds of " + s + " within " + r, x.holds(0, r), held);
            }
        }
    }

    private boolean isNew(List<String> places, String word) {
        for (String place : places) {
            GluedWords x = Check.made(graph + place + word);
            boolean isSame = x.word(0, 1) == x.word(1, 1) && x.apart(0, 1) == 0;
            if (isSame) {
                return false;
            }
        }
        return true;
    }

    private int within(List<String> places, int r) {
        int found = 0;
        for (String place : places) {
            GluedWords x = Check.made(graph + "word 0;" + place);
            found += x.apart(0, 1) <= r ? 1 : 0;
        }
        return found;
    }
}
