/** Promises 38 to 50: the tree, how many there are, out, chi. */
public final class TreeTest {
    private static final String S = "vertex 4;vertex 6;edge 0 2 1 3;";
    private static final String BIG = "vertex 60;" + "edge 0 60 0 60;".repeat(6);
    private static final long MOST = 1_000_000_000_000L;
    private static final Check check = new Check();

    public static void main(String[] args) {
        apart();
        moves();
        way();
        holds();
        axis();
        ball();
        sphere();
        listed();
        near();
        meet();
        tell();
        chi();
        check.end();
    }

    private static void apart() {
        GluedWords x = Check.made(S + "word 0 1 > 0 1 < 0;word 0;word 0 3;word 0 > 0 2;word 0 1 > 0 2;word 1;word 0 2 > 0 5;");
        check.due(38, "apart(0, 1)", x, x.apart(0, 1), 2, 0);
        check.due(38, "apart(1, 2)", x, x.apart(1, 2), 0, 0);
        check.due(38, "apart(1, 3)", x, x.apart(1, 3), 1, 0);
        check.due(38, "apart(3, 4)", x, x.apart(3, 4), 2, 0);
        check.due(38, "apart(3, 6)", x, x.apart(3, 6), 0, 0);
        check.due(38, "apart(0, 4)", x, x.apart(0, 4), 1, 0);
        check.due(38, "apart(4, 4)", x, x.apart(4, 4), 0, 0);
        check.none(38, "apart(0, 5)", x, x.apart(0, 5), 4);
        check.none(38, "apart(0, 7)", x, x.apart(0, 7), 2);
        check.none(38, "apart(-1, 5)", x, x.apart(-1, 5), 2);
        GluedWords y = Check.made("vertex 2;edge 0 2 0 2;word 0" + " > 0".repeat(24) + ";word 0 1" + " > 0".repeat(24) + ";");
        check.due(38, "48 apart", y, y.apart(0, 1), 48, 0);
    }

    private static void moves() {
        GluedWords x = Check.made(S + "word 0 1 > 0 1 < 0;word 0;word 0 2;word 0 1;word 0 > 0;word 1;word 0 1 > 0 1 < 0 1 > 0 1;");
        check.due(39, "moves(0, 1)", x, x.moves(0, 1), 2, 0);
        check.due(39, "moves(0, 6)", x, x.moves(0, 6), 2, 0);
        // away from the axis it is twice the way to it more
        check.due(39, "moves(3, 1)", x, x.moves(3, 1), 0, 0);
        check.due(39, "moves(3, 4)", x, x.moves(3, 4), 2, 0);
        check.due(39, "moves(2, 6)", x, x.moves(2, 6), 0, 0);
        check.due(39, "moves(3, 6)", x, x.moves(3, 6), 6, 0);
        check.none(39, "moves(4, 0)", x, x.moves(4, 0), 4);
        check.none(39, "moves(5, 0)", x, x.moves(5, 0), 4);
        check.none(39, "moves(0, 5)", x, x.moves(0, 5), 4);
        check.none(39, "moves(4, 9)", x, x.moves(4, 9), 2);
        check.none(39, "moves(-1, 0)", x, x.moves(-1, 0), 2);
        GluedWords y = Check.made("vertex 2;edge 0 2 0 2;word 0 1" + " > 0".repeat(24) + ";word 0 1" + " < 0 1".repeat(24) + ";");
        check.due(39, "72", y, y.moves(0, 1), 72, 0);
    }

    private static void way() {
        GluedWords x = Check.made(S + "word 0 1 > 0 1 < 0;word 0;word 0 > 0 2;word 1;word 1 < 0 1 > 0;");
        int[] there = {0, 1, 0};
        for (int i = 0; i < 3; i++) {
            check.due(40, "way(1, 0, " + i + ")", x, x.way(1, 0, i), there[i], 0);
        }
        check.none(40, "way(1, 0, 3)", x, x.way(1, 0, 3), 5);
        int[] from = {1, 0, 1, 0};
        for (int i = 0; i < 4; i++) {
            check.due(40, "way(2, 0, " + i + ")", x, x.way(2, 0, i), from[i], 0);
        }
        check.none(40, "way(2, 0, 4)", x, x.way(2, 0, 4), 5);
        check.due(40, "way(3, 3, 0)", x, x.way(3, 3, 0), 1, 0);
        check.none(40, "way(3, 3, 1)", x, x.way(3, 3, 1), 5);
        check.none(40, "way(0, 3, 0)", x, x.way(0, 3, 0), 4);
        check.none(40, "way(0, 5, 0)", x, x.way(0, 5, 0), 2);
        check.none(40, "way(-1, 0, 0)", x, x.way(-1, 0, 0), 2);
        check.none(40, "way(9, 9, -1)", x, x.way(9, 9, -1), 1);
        GluedWords y = Check.made("vertex 2;vertex 4;vertex 6;edge 0 2 1 4;edge 0 2 2 6;word 0 > 0 1;word 0 1 > 1 5;");
        int[] round = {1, 0, 2};
        for (int i = 0; i < 3; i++) {
            check.due(40, "way(0, 1, " + i + ")", y, y.way(0, 1, i), round[i], 0);
        }
    }

    private static void holds() {
        GluedWords x = Check.made(S + "word 0 1 > 0 1 < 0;word 0 2;word 0 1;word 0 > 0;word 1 2;word 0 1 > 0 3 < 0;word 0 1 > 0 2 < 0 3;");
        check.due(41, "holds(1, 0)", x, x.holds(1, 0), 1, 0);
        check.due(41, "holds(1, 2)", x, x.holds(1, 2), 7, 0);
        check.due(41, "holds(2, 12)", x, x.holds(2, 12), 1, 0);
        check.due(41, "holds(4, 5)", x, x.holds(4, 5), 1, 0);
        check.due(41, "holds(5, 1)", x, x.holds(5, 1), 1, 0);
        check.due(41, "holds(6, 3)", x, x.holds(6, 3), 1, 0);
        check.none(41, "holds(0, 1)", x, x.holds(0, 1), 5);
        check.none(41, "holds(3, 1)", x, x.holds(3, 1), 4);
        check.none(41, "holds(7, 1)", x, x.holds(7, 1), 2);
        check.none(41, "holds(-1, 1)", x, x.holds(-1, 1), 2);
        check.none(41, "holds(1, 13)", x, x.holds(1, 13), 1);
        check.none(41, "holds(9, -1)", x, x.holds(9, -1), 1);
        // 4 of 12, of order 3, passes the edge of 3, not that of 4: 4 places, then 5 less the way back each
        GluedWords y = Check.made("vertex 12;vertex 15;vertex 8;edge 0 4 1 5;edge 0 3 2 2;word 0 4;word 0 6;word 0 3;word 0;word 1 5;");
        check.due(41, "holds(0, 1)", y, y.holds(0, 1), 5, 0);
        check.due(41, "holds(0, 2)", y, y.holds(0, 2), 21, 0);
        check.due(41, "holds(1, 1)", y, y.holds(1, 1), 4, 0);
        check.due(41, "holds(1, 2)", y, y.holds(1, 2), 7, 0);
        check.due(41, "holds(2, 2)", y, y.holds(2, 2), 7, 0);
        check.due(41, "holds(3, 2)", y, y.holds(3, 2), y.ball(0, 2), 0);
        check.due(41, "holds(4, 1)", y, y.holds(4, 1), 6, 0);
        check.due(41, "holds(4, 2)", y, y.holds(4, 2), 21, 0);
        GluedWords z = Check.made(BIG + "word 0;word 0 1;");
        check.due(41, "holds all", z, z.holds(0, 12), MOST, 0);
        check.due(41, "holds one", z, z.holds(1, 12), 1, 0);
        GluedWords w = Check.made("vertex 4;edge 0 2 0 2;word 0 1 > 0 2;");
        check.none(41, "holds of one step", w, w.holds(0, 1), 5);
        check.due(42, "axis of one step", w, w.axis(0, 3), 0, 0);
    }

    private static void axis() {
        GluedWords x = Check.made(S + "word 0 1 > 0 1 < 0;word 1 1 < 0 1 > 0;word 0;word 0 > 0;word 0 > 0 1 < 0 1 > 0 1 < 0 1 > 0 4 < 0;");
        for (int i = 0; i < 6; i++) {
            check.due(42, "axis(0, " + i + ")", x, x.axis(0, i), i % 2, 0);
            check.due(42, "axis(1, " + i + ")", x, x.axis(1, i), 1 - i % 2, 0);
            check.due(42, "axis(4, " + i + ")", x, x.axis(4, i), 1 - i % 2, 0);
        }
        check.due(42, "axis(0, last)", x, x.axis(0, Integer.MAX_VALUE), 1, 0);
        check.none(42, "axis(2, 0)", x, x.axis(2, 0), 5);
        check.none(42, "axis(3, 0)", x, x.axis(3, 0), 4);
        check.none(42, "axis(5, 0)", x, x.axis(5, 0), 2);
        check.none(42, "axis(-1, 0)", x, x.axis(-1, 0), 2);
        check.none(42, "axis(9, -1)", x, x.axis(9, -1), 1);
    }

    private static void ball() {
        GluedWords x = Check.made(S + "vertex 5;");
        long[] want = {1, 3, 7, 11, 19, 27, 43};
        for (int r = 0; r < want.length; r++) {
            check.due(43, "ball(0, " + r + ")", x, x.ball(0, r), want[r], 0);
        }
        check.due(43, "ball(1, 2)", x, x.ball(1, 2), 7, 0);
        check.due(43, "ball(2, 12)", x, x.ball(2, 12), 1, 0);
        check.none(43, "ball(0, 13)", x, x.ball(0, 13), 1);
        check.none(43, "ball(9, -1)", x, x.ball(9, -1), 1);
        check.none(43, "ball(3, 0)", x, x.ball(3, 0), 2);
        check.none(43, "ball(-1, 0)", x, x.ball(-1, 0), 2);
        GluedWords y = Check.made(BIG);
        check.due(43, "ball(0, 1)", y, y.ball(0, 1), 721, 0);
        check.due(43, "ball(0, 2)", y, y.ball(0, 2), 721 + 720 * 719, 0);
        check.due(43, "ball(0, 4)", y, y.ball(0, 4), 721 + 720L * 719 + 720L * 719 * 719 + 720L * 719 * 719 * 719, 0);
        check.due(43, "ball(0, 5)", y, y.ball(0, 5), MOST, 0);
        check.due(43, "ball(0, 12)", y, y.ball(0, 12), MOST, 0);
        // a row: each place has two edges
        GluedWords z = Check.made("vertex 1;edge 0 1 0 1;");
        check.due(43, "ball of a row", z, z.ball(0, 12), 25, 0);
    }

    private static void sphere() {
        GluedWords x = Check.made(S + "vertex 5;");
        long[] want = {4, 0, 16, 0, 32, 0, 64};
        for (int k = 0; k < want.length; k++) {
            check.due(44, "sphere(0, " + k + ")", x, x.sphere(0, k), want[k], 0);
        }
        check.due(44, "sphere(1, 2)", x, x.sphere(1, 2), 18, 0);
        check.due(44, "sphere(2, 0)", x, x.sphere(2, 0), 5, 0);
        check.due(44, "sphere(2, 1)", x, x.sphere(2, 1), 0, 0);
        check.none(44, "sphere(0, 13)", x, x.sphere(0, 13), 1);
        check.none(44, "sphere(9, -1)", x, x.sphere(9, -1), 1);
        check.none(44, "sphere(3, 0)", x, x.sphere(3, 0), 2);
        check.none(44, "sphere(-1, 0)", x, x.sphere(-1, 0), 2);
        GluedWords y = Check.made(BIG);
        check.due(44, "sphere(0, 1)", y, y.sphere(0, 1), 720 * 60, 0);
        check.due(44, "sphere(0, 3)", y, y.sphere(0, 3), 720L * 719 * 719 * 60, 0);
        check.due(44, "sphere(0, 4)", y, y.sphere(0, 4), MOST, 0);
        check.due(44, "sphere(0, 12)", y, y.sphere(0, 12), MOST, 0);
    }

    private static void listed() {
        GluedWords x = Check.made(S + "word 0 > 0 1 < 0;word 0 1 > 0 2 < 0 3;word 0 3;word 0 1 > 0 3 < 0;word 0 > 0;"
                + "word 0 3 > 0 4 < 0 1;word 0" + " > 0 1 < 0 1".repeat(7) + ";word 0" + " > 0 1 < 0 1".repeat(6) + ";");
        long[] want = {0, 15, 3, 3, -1, 9, -1};
        int[] status = {0, 0, 0, 0, 4, 0, 5};
        for (int w = 0; w < want.length; w++) {
            check.due(45, "listed(" + w + ")", x, x.listed(w), want[w], status[w]);
        }
        // each step leads back, so 0 is not among the numbers ahead: all are the first that can be but the last number
        check.due(45, "listed(7)", x, x.listed(7), 1, 0);
        check.none(45, "listed(8)", x, x.listed(8), 2);
        check.none(45, "listed(-1)", x, x.listed(-1), 2);
        GluedWords y = Check.made("vertex 3;vertex 2;edge 0 3 1 2;edge 1 2 0 3;edge 0 1 0 1;");
        for (int k = 0; k <= 4; k++) {
            long all = y.sphere(0, k);
            for (int i = 0; i < all; i += k < 3 ? 1 : 17) {
                int made = y.spell(0, k, i);
                check.due(45, "listed of spell(0, " + k + ", " + i + ")", y, y.listed(made), i, 0);
                check.due(18, "it is a form", y.word(made, 3), 1);
                check.due(18, "of so many steps", y.word(made, 2), k);
                y.drop(made);
            }
        }
        GluedWords z = Check.made(BIG + "word 0 59" + " > 5 59".repeat(12) + ";word 0" + " > 0".repeat(12) + " 7;"
                + "word 0 59 > 5 59 > 5 59 > 5 58;");
        check.due(45, "listed beyond what is told", z, z.listed(0), MOST, 0);
        check.due(45, "listed first", z, z.listed(1), 7, 0);
        check.due(45, "listed late", z, z.listed(2), (659L * 719 * 719 + 659L * 719 + 659) * 60 + 58, 0);
    }

    private static void near() {
        GluedWords x = Check.made(S + "word 0 1 > 0 1 < 0;word 0;word 0 3;word 0 > 0 2;word 1;word 0 1 > 0;");
        check.due(46, "near(1, 0)", x, x.near(1, 0), 0b110, 0);
        check.due(46, "near(1, 1)", x, x.near(1, 1), 0b101110, 0);
        check.due(46, "near(1, 2)", x, x.near(1, 2), 0b101111, 0);
        check.due(46, "near(0, 1)", x, x.near(0, 1), 0b100001, 0);
        check.due(46, "near(4, 99)", x, x.near(4, 99), 0b10000, 0);
        check.due(46, "near(0, 99)", x, x.near(0, 99), 0b101111, 0);
        check.none(46, "near(0, 100)", x, x.near(0, 100), 1);
        check.none(46, "near(9, -1)", x, x.near(9, -1), 1);
        check.none(46, "near(6, 0)", x, x.near(6, 0), 2);
        check.none(46, "near(-1, 0)", x, x.near(-1, 0), 2);
    }

    private static void meet() {
        GluedWords x = Check.made("vertex 12;vertex 15;vertex 8;vertex 7;edge 0 4 1 5;edge 0 3 2 2;edge 0 6 0 6;");
        int[] want = {19, 5, 2, 0};
        for (int v = 0; v < 4; v++) {
            check.due(47, "meet(" + v + ")", x, x.meet(v), want[v], 0);
        }
        check.none(47, "meet(4)", x, x.meet(4), 2);
        check.none(47, "meet(-1)", x, x.meet(-1), 2);
    }

    private static void tell() {
        GluedWords x = Check.made("vertex 60;" + "edge 0 60 0 60;".repeat(6) + "word 0 59 > 5 < 5 10;word 0 9;word 0 59"
                + ">5 59".repeat(24) + ";");
        check.due(48, "tell(0)", x, x.tell(0), 23, 0);
        check.dueText(48, "out()", Check.told(x, 0), "word 0 59 > 5 0 < 5 10;");
        check.none(48, "tell(3)", x, x.tell(3), 2);
        check.none(48, "tell(-1)", x, x.tell(-1), 2);
        check.due(49, "out(0)", x, x.out(0), 'w', 0);
        check.due(49, "out(22)", x, x.out(22), ';', 0);
        check.none(49, "out(23)", x, x.out(23), 5);
        check.none(49, "out(-1)", x, x.out(-1), 1);
        check.due(48, "tell(1)", x, x.tell(1), 9, 0);
        check.none(49, "out(9)", x, x.out(9), 5);
        x.drop(1);
        check.due(49, "out(7) stays", x, x.out(7), '9', 0);
        check.due(48, "tell of the longest", x, x.tell(1), 178, 0);
        check.dueText(48, "the longest", Check.told(x, 1), "word 0 59" + " > 5 59".repeat(24) + ";");
    }

    private static void chi() {
        GluedWords x = Check.made(S);
        check.due(50, "chi(0)", x, x.chi(0), -1, 0);
        check.due(50, "chi(1)", x, x.chi(1), 12, 0);
        check.none(50, "chi(2)", x, x.chi(2), 1);
        check.none(50, "chi(-1)", x, x.chi(-1), 1);
        GluedWords y = Check.made("vertex 59;vertex 53;vertex 47;vertex 43;vertex 41;vertex 37;");
        long below = 59L * 53 * 47 * 43 * 41 * 37;
        long above = below / 59 + below / 53 + below / 47 + below / 43 + below / 41 + below / 37;
        check.due(50, "chi(0)", y, y.chi(0), (int) above, 0);
        check.due(50, "chi(1)", y, y.chi(1), (int) below, 0);
        GluedWords z = Check.made("vertex 6;edge 0 1 0 1;");
        check.due(50, "chi(0) of nought", z, z.chi(0), 0, 0);
        check.due(50, "chi(1) of nought", z, z.chi(1), 1, 0);
        GluedWords w = Check.made("vertex 1;" + "edge 0 1 0 1;".repeat(6));
        check.due(50, "chi(0) of six rounds", w, w.chi(0), -5, 0);
        check.due(50, "chi(1) of six rounds", w, w.chi(1), 1, 0);
        GluedWords v = Check.made("vertex 60;vertex 60;vertex 3;");
        check.due(50, "chi(0) of 1/60 and 1/60 and 1/3", v, v.chi(0), 11, 0);
        check.due(50, "chi(1) of 1/60 and 1/60 and 1/3", v, v.chi(1), 30, 0);
    }
}
