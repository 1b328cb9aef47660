/** Promises 23 to 37: words beside one another. */
public final class WordsTest {
    private static final String S = "vertex 4;vertex 6;edge 0 2 1 3;";
    private static final Check check = new Check();

    public static void main(String[] args) {
        alike();
        steps();
        lengthAndOrder();
        kinWithSteps();
        kinWithoutSteps();
        kins();
        net();
        central();
        having();
        root();
        swaps();
        alikesAndTwin();
        check.end();
    }

    private static void alike() {
        GluedWords x = Check.made(S + "word 0 1 > 0 1 < 0;word 0 3 > 0 4 < 0;word 0 > 0 < 0 1 > 0 1 < 0;word 1;word 0;"
                + "word 0 1 > 0 1 < 0 1;");
        check.due(23, "alike(0, 1)", x, x.alike(0, 1), 1, 0);
        check.due(23, "alike(1, 2)", x, x.alike(1, 2), 1, 0);
        check.due(23, "alike(2, 2)", x, x.alike(2, 2), 1, 0);
        check.due(23, "alike(0, 5)", x, x.alike(0, 5), 0, 0);
        check.due(23, "alike(3, 4)", x, x.alike(3, 4), 0, 0);
        GluedWords y = Check.made(S + "word 0 1 > 0 1 < 0;word 0 > 0 1 < 0;word 0 1;word 0 2;word 0 1 > 0 2 < 0;");
        check.due(23, "another number first", y, y.alike(0, 1), 0, 0);
        check.due(23, "another number alone", y, y.alike(2, 3), 0, 0);
        check.due(23, "another number inside", y, y.alike(0, 4), 0, 0);
        check.none(23, "alike(0, 6)", x, x.alike(0, 6), 2);
        check.none(23, "alike(-1, 0)", x, x.alike(-1, 0), 2);
    }

    private static void steps() {
        GluedWords x = Check.made(S + "word 0 1 > 0 1 < 0;word 0 1 > 0 3 < 0;word 0 > 0 < 0 > 0;word 1;");
        check.due(24, "steps(0)", x, x.steps(0), 2, 0);
        check.due(24, "steps(1)", x, x.steps(1), 0, 0);
        check.due(24, "steps(2)", x, x.steps(2), 1, 0);
        check.due(24, "steps(3)", x, x.steps(3), 0, 0);
        check.due(24, "the word stays", x.word(1, 2), 2);
        check.none(24, "steps(4)", x, x.steps(4), 2);
        check.none(24, "steps(-1)", x, x.steps(-1), 2);
    }

    private static void lengthAndOrder() {
        GluedWords x = Check.made(S + "word 0 1 > 0 1 < 0;word 0 1 > 0 2 < 0 3;word 0;word 0 1;word 1 4;word 0 > 0;"
                + "word 0 1 > 0 1 < 0 1;word 1 2 < 0 1 > 0 4;");
        int[] lengths = {2, 0, 0, 0, 0, -1, 0, 0};
        int[] orders = {0, 3, 1, 4, 3, -1, 3, 4};
        for (int w = 0; w < lengths.length; w++) {
            int status = w == 5 ? 4 : 0;
            check.due(25, "length(" + w + ")", x, x.length(w), lengths[w], status);
            check.due(26, "orderOf(" + w + ")", x, x.orderOf(w), orders[w], status);
        }
        GluedWords y = Check.made("vertex 4;edge 0 2 0 2;word 0 1 > 0 2;");
        check.due(25, "length of one step", y, y.length(0), 1, 0);
        check.due(26, "orderOf of one step", y, y.orderOf(0), 0, 0);
        check.none(25, "length(8)", x, x.length(8), 2);
        check.none(25, "length(-1)", x, x.length(-1), 2);
        check.none(26, "orderOf(8)", x, x.orderOf(8), 2);
        check.none(26, "orderOf(-1)", x, x.orderOf(-1), 2);
    }

    private static void kinBy(GluedWords x, int a, int b, int behind, int taken) {
        check.due(27, "kin(" + a + ", " + b + ")", x, x.kin(a, b), 1, 0);
        check.due(28, "kinBy(" + a + ", " + b + ", 0)", x, x.kinBy(a, b, 0), behind, 0);
        check.due(28, "kinBy(" + a + ", " + b + ", 1)", x, x.kinBy(a, b, 1), taken, 0);
    }

    private static void notKin(GluedWords x, int a, int b) {
        check.due(27, "kin(" + a + ", " + b + ")", x, x.kin(a, b), 0, 0);
        check.none(28, "kinBy(" + a + ", " + b + ", 0)", x, x.kinBy(a, b, 0), 5);
        check.none(28, "kinBy(" + a + ", " + b + ", 1)", x, x.kinBy(a, b, 1), 5);
    }

    private static void kinWithSteps() {
        GluedWords x = Check.made(S + "word 0 1 > 0 1 < 0;word 1 1 < 0 1 > 0;word 0 > 0 1 < 0 1;word 0 1 > 0 2 < 0;"
                + "word 1 < 0 1 > 0 1;word 0 > 0;word 0 1 > 0 1 < 0 2;word 0 1 > 0 1 < 0 1 > 0 2 < 0;"
                + "word 0 1 > 0 2 < 0 1 > 0 1 < 0;");
        kinBy(x, 0, 0, 0, 0);
        kinBy(x, 0, 1, 1, 0);
        kinBy(x, 1, 0, 1, 0);
        kinBy(x, 0, 2, 0, 1);
        // 0 less 1 is 3, which leaves 1 ahead and carries 2 round: 2 with 1 and 1 behind is 0; so does 3, but 1 is less
        kinBy(x, 2, 0, 0, 1);
        kinBy(x, 0, 4, 1, 1);
        notKin(x, 0, 3);
        notKin(x, 0, 6);
        notKin(x, 0, 7);
        kinBy(x, 7, 8, 2, 0);
        check.none(27, "kin(0, 5)", x, x.kin(0, 5), 4);
        check.none(27, "kin(5, 0)", x, x.kin(5, 0), 4);
        check.none(27, "kin(5, 9)", x, x.kin(5, 9), 2);
        check.none(27, "kin(-1, 0)", x, x.kin(-1, 0), 2);
        check.none(28, "kinBy(0, 5, 0)", x, x.kinBy(0, 5, 0), 4);
        check.none(28, "kinBy(0, 9, 0)", x, x.kinBy(0, 9, 0), 2);
        check.none(28, "kinBy(0, 0, 2)", x, x.kinBy(0, 0, 2), 1);
        check.none(28, "kinBy(99, 0, -1)", x, x.kinBy(99, 0, -1), 1);
        GluedWords y = Check.made("vertex 6;edge 0 3 0 3;word 0 1 > 0 1 > 0;word 0 > 0 2 > 0;word 0 2 > 0;word 0 > 0 2;word 0 < 0 2;");
        // 1 > 1 >, begun as it is, c taken: 1 - c > 1 > c
        notKin(y, 0, 1);
        kinBy(y, 2, 3, 0, 2);
        notKin(y, 3, 4);
        GluedWords z = Check.made("vertex 6;edge 0 6 0 6;word 0 1 > 0 2 > 0 3 > 0 4 > 0 5;word 0 4 > 0 0 > 0 2 > 0 3 > 0;"
                + "word 0 2 > 0 0 > 0 2 > 0 3 > 0 2;word 0 3 > 0 4 > 0 0 > 0 2 > 0;");
        kinBy(z, 0, 1, 3, 0);
        kinBy(z, 0, 2, 3, 2);
        kinBy(z, 0, 3, 2, 0);
        kinBy(z, 1, 0, 1, 5);
    }

    private static void kinWithoutSteps() {
        GluedWords x = Check.made("vertex 4;vertex 6;vertex 12;vertex 4;edge 0 2 1 3;edge 1 1 2 2;word 0 2;word 1 3;word 2 6;"
                + "word 1 1;word 2 2;word 0 1;word 3 2;word 0 3 > 0 3 < 0 1;word 0 1 > 0 1 < 0;");
        kinBy(x, 0, 0, 0, 0);
        kinBy(x, 0, 1, 1, 0);
        kinBy(x, 0, 2, 2, 0);
        kinBy(x, 2, 0, 2, 0);
        kinBy(x, 3, 4, 1, 0);
        notKin(x, 0, 5);
        notKin(x, 0, 6);
        notKin(x, 0, 8);
        // 3, twice the 3 that is 2, and 1: 2
        kinBy(x, 7, 1, 1, 0);
        GluedWords y = Check.made("vertex 1;vertex 1;vertex 2;vertex 2;edge 0 1 1 1;edge 2 1 3 1;word 0;word 1;word 2;word 2 1;word 3;");
        kinBy(y, 0, 1, 1, 0);
        notKin(y, 0, 2);
        notKin(y, 2, 3);
        kinBy(y, 2, 4, 1, 0);
        GluedWords z = Check.made("vertex 2;".repeat(6) + "edge 0 1 1 1;edge 1 1 2 1;edge 3 1 2 1;edge 3 1 4 1;edge 4 1 5 1;edge 0 2 5 2;"
                + "word 0 1;word 5 1;word 0;word 5;");
        kinBy(z, 0, 1, 5, 0);
        kinBy(z, 2, 3, 1, 0);
    }

    private static void kins() {
        GluedWords x = Check.made(S + "word 0 1 > 0 1 < 0;word 1 1 < 0 1 > 0;word 0 > 0 1 < 0 1;word 0 2;word 0 > 0;"
                + "word 1 3;word 0 1;");
        check.due(29, "kins(0)", x, x.kins(0), 0b111, 0);
        check.due(29, "kins(2)", x, x.kins(2), 0b111, 0);
        check.due(29, "kins(3)", x, x.kins(3), 0b101000, 0);
        check.due(29, "kins(6)", x, x.kins(6), 0b1000000, 0);
        check.none(29, "kins(4)", x, x.kins(4), 4);
        check.none(29, "kins(7)", x, x.kins(7), 2);
        check.none(29, "kins(-1)", x, x.kins(-1), 2);
    }

    private static void net() {
        GluedWords x = Check.made("vertex 2;edge 0 2 0 2;edge 0 1 0 1;word 0 > 0 > 0 1 < 1 < 0 > 0 > 1;word 0 < 1;word 0;");
        check.due(30, "net(0, 0)", x, x.net(0, 0), 2, 0);
        check.due(30, "net(0, 1)", x, x.net(0, 1), 0, 0);
        check.due(30, "net(1, 1)", x, x.net(1, 1), -1, 0);
        check.due(30, "net(1, 0)", x, x.net(1, 0), 0, 0);
        check.due(30, "net(2, 0)", x, x.net(2, 0), 0, 0);
        check.none(30, "net(3, 0)", x, x.net(3, 0), 2);
        check.none(30, "net(0, 2)", x, x.net(0, 2), 2);
        check.none(30, "net(-1, 0)", x, x.net(-1, 0), 2);
        check.none(30, "net(0, -1)", x, x.net(0, -1), 2);
    }

    private static void central() {
        GluedWords x = Check.made("vertex 12;vertex 18;vertex 6;vertex 10;edge 0 2 1 3;edge 1 9 2 3;");
        for (int s = 0; s < 12; s++) {
            check.due(31, "central(0, " + s + ")", x, x.central(0, s), s % 6 == 0 ? 1 : 0, 0);
        }
        for (int s = 0; s < 18; s++) {
            check.due(31, "central(1, " + s + ")", x, x.central(1, s), s % 9 == 0 ? 1 : 0, 0);
        }
        check.due(31, "central(3, 7)", x, x.central(3, 7), 1, 0);
        check.none(31, "central(0, 12)", x, x.central(0, 12), 1);
        check.none(31, "central(0, -1)", x, x.central(0, -1), 1);
        check.none(31, "central(9, -1)", x, x.central(9, -1), 1);
        check.none(31, "central(4, 0)", x, x.central(4, 0), 2);
        check.none(31, "central(-1, 0)", x, x.central(-1, 0), 2);
        int[] centres = {2, 2, 2, 10};
        for (int v = 0; v < 4; v++) {
            check.due(32, "centre(" + v + ")", x, x.centre(v), centres[v], 0);
        }
        check.none(32, "centre(4)", x, x.centre(4), 2);
        check.none(32, "centre(-1)", x, x.centre(-1), 2);
        GluedWords y = Check.made("vertex 12;edge 0 2 0 2;edge 0 3 0 3;");
        check.due(32, "centre of 2 and 3", y, y.centre(0), 2, 0);
        check.due(31, "central(0, 4)", y, y.central(0, 4), 0, 0);
        check.due(31, "central(0, 6)", y, y.central(0, 6), 1, 0);
        // the edge that counts is the farthest from 0 and stands first
        GluedWords row = Check.made("vertex 4;".repeat(6) + "edge 5 2 4 2;edge 3 1 4 1;edge 2 1 3 1;edge 1 1 2 1;edge 0 1 1 1;");
        for (int v = 0; v < 6; v++) {
            check.due(32, "centre(" + v + ") of a row", row, row.centre(v), 2, 0);
        }
        GluedWords z = Check.made("vertex 60;edge 0 1 0 1;vertex 60;edge 0 1 1 1;");
        check.due(32, "centre of all", z, z.centre(0), 60, 0);
    }

    private static void having() {
        GluedWords x = Check.made("vertex 12;vertex 1;");
        int[] want = {1, 1, 2, 2, 0, 2, 0, 0, 0, 0, 0, 4, 0};
        for (int i = 0; i < want.length; i++) {
            check.due(33, "having(0, " + (i + 1) + ")", x, x.having(0, i + 1), want[i], 0);
        }
        check.due(33, "having(1, 1)", x, x.having(1, 1), 1, 0);
        check.due(33, "having(1, big)", x, x.having(1, Integer.MAX_VALUE), 0, 0);
        check.none(33, "having(0, 0)", x, x.having(0, 0), 1);
        check.none(33, "having(5, -1)", x, x.having(5, -1), 1);
        check.none(33, "having(2, 1)", x, x.having(2, 1), 2);
        check.none(33, "having(-1, 1)", x, x.having(-1, 1), 2);
    }

    private static void root() {
        GluedWords x = Check.made(S + "word 0 1 > 0 1 < 0;word 0 > 0;word 0 1;word 0 > 0 1 < 0 1 > 0 1 < 0 1 > 0 1 < 0 1;"
                + "word 0 1 > 0 1 < 0 1 > 0 2 < 0;word 0 1 > 0 2 < 0 1 > 0 2 < 0;word 0 > 0 1 < 0 1 > 0 1 < 0 1 > 0 4 < 0;");
        int[] want = {1, -1, -1, 3, 1, 2, 1};
        int[] status = {0, 4, 5, 0, 0, 0, 0};
        for (int w = 0; w < 7; w++) {
            check.due(34, "root(" + w + ")", x, x.root(w), want[w], status[w]);
        }
        for (int m = 2; m <= 9; m++) {
            int made = x.power(0, m);
            check.due(34, "root of power " + m, x, x.root(made), m, 0);
            x.drop(made);
            made = x.power(0, -m);
            check.due(34, "root of power " + -m, x, x.root(made), m, 0);
            x.drop(made);
        }
        int square = x.power(4, 2);
        check.due(34, "root of a square of four steps", x, x.root(square), 2, 0);
        int cube = x.power(6, 3);
        check.due(34, "root of a cube that is not as its core", x, x.root(cube), 3, 0);
        x.drop(cube);
        x.drop(square);
        check.none(34, "root(7)", x, x.root(7), 2);
        check.none(34, "root(-1)", x, x.root(-1), 2);
        GluedWords y = Check.made("vertex 4;edge 0 1 0 1;word 0 > 0 > 0 2;word 0 > 0 > 0 1;word 0" + " > 0".repeat(24) + ";"
                + "word 0" + " > 0".repeat(24) + " 1;word 0" + " > 0".repeat(23) + " 1;");
        check.due(34, "root, 2 is twice 1", y, y.root(0), 2, 0);
        check.due(34, "root, 1 is not twice one", y, y.root(1), 1, 0);
        check.due(34, "root of 24", y, y.root(2), 24, 0);
        check.due(34, "root of 24 with 1 behind", y, y.root(3), 3, 0);
        check.due(34, "root of 23 with 1 behind", y, y.root(4), 23, 0);
    }

    private static void swaps() {
        GluedWords x = Check.made(S + "word 0 1 > 0 1 < 0;word 0 2;word 0 1;word 1;word 0 > 0;word 0 1 > 0 1 < 0 1 > 0 1 < 0 2;");
        check.due(35, "swaps(0, 1)", x, x.swaps(0, 1), 1, 0);
        check.due(35, "swaps(0, 2)", x, x.swaps(0, 2), 0, 0);
        check.due(35, "swaps(1, 2)", x, x.swaps(1, 2), 1, 0);
        check.due(35, "swaps(0, 5)", x, x.swaps(0, 5), 1, 0);
        check.due(35, "swaps(5, 2)", x, x.swaps(5, 2), 0, 0);
        check.none(35, "swaps(0, 3)", x, x.swaps(0, 3), 4);
        check.none(35, "swaps(0, 4)", x, x.swaps(0, 4), 4);
        check.none(35, "swaps(4, 3)", x, x.swaps(4, 3), 4);
        check.none(35, "swaps(4, 6)", x, x.swaps(4, 6), 2);
        check.none(35, "swaps(-1, 0)", x, x.swaps(-1, 0), 2);
        GluedWords y = Check.made("vertex 2;edge 0 2 0 2;word 0" + " > 0".repeat(24) + ";word 0 1" + " > 0".repeat(24) + ";");
        check.due(35, "48 steps", y, y.swaps(0, 0), 1, 0);
        check.due(35, "48 steps with 1 ahead", y, y.swaps(0, 1), 0, 0);
    }

    private static void alikesAndTwin() {
        GluedWords x = Check.made(S + "word 0 1 > 0 1 < 0;word 0 2;word 0 3 > 0 4 < 0;word 1;word 0 > 0 3 < 0;word 0 1 > 0 1 < 0;");
        int[] sets = {0b100101, 0b10010, 0b100101, 0b1000, 0b10010, 0b100101};
        int[] twins = {2, 4, 0, -1, 1, 0};
        for (int w = 0; w < 6; w++) {
            check.due(36, "alikes(" + w + ")", x, x.alikes(w), sets[w], 0);
            check.due(37, "twin(" + w + ")", x, x.twin(w), twins[w], w == 3 ? 5 : 0);
        }
        check.none(36, "alikes(6)", x, x.alikes(6), 2);
        check.none(36, "alikes(-1)", x, x.alikes(-1), 2);
        check.none(37, "twin(6)", x, x.twin(6), 2);
        check.none(37, "twin(-1)", x, x.twin(-1), 2);
    }
}
