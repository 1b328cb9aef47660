/** Promises 23 to 37: words beside one another. */
final class WordBounds {
    private static final String TWO = Makers.TWO;
    private static final int LEAST = Integer.MIN_VALUE;
    private static final int GREATEST = Integer.MAX_VALUE;
    private final Sentences s;

    WordBounds(Sentences s) {
        this.s = s;
    }

    void all() {
        alike();
        steps();
        length();
        orderOf();
        kin();
        kinBy();
        kins();
        net();
        central();
        centre();
        having();
        root();
        swaps();
        alikes();
        twin();
    }

    private void alike() {
        s.promise(23);
        s.says("1 if two WORDS are ALIKE, else 0");
        GluedWords x = Check.made(TWO + "word 0 3 > 0;word 0 1 > 0 3;word 0 1 > 0 2;word 0 > 0 3 < 0;word 0 2;word 1 2;");
        int[][] want = {{0, 0, 1}, {0, 1, 1}, {1, 0, 1}, {0, 2, 0}, {3, 4, 1}, {4, 5, 0}, {0, 4, 0}};
        for (int[] w : want) {
            s.good("alike(" + w[0] + ", " + w[1] + ")", x, x.alike(w[0], w[1]), w[2]);
        }

        s.says("(2).");
        s.refused(Makers::busy, "alike(0, 6)", y -> y.alike(0, 6), 2);
        s.refused(Makers::busy, "alike(6, 0)", y -> y.alike(6, 0), 2);
        s.refused(Makers::busy, "alike(-1, 0)", y -> y.alike(-1, 0), 2);
        s.refused(Makers::busy, "alike(0, -1)", y -> y.alike(0, -1), 2);
        s.refused(Makers::bare, "alike(0, 0)", y -> y.alike(0, 0), 2);
    }

    private void steps() {
        s.promise(24);
        s.says("How many STEPS the FORM of a WORD has");
        GluedWords x = Check.made("vertex 1;edge 0 1 0 1;word 0;word 0>0;word 0>0<0;word 0" + ">0".repeat(24) + ";");
        int[] want = {0, 1, 0, 24};
        for (int w = 0; w < want.length; w++) {
            s.good("steps(" + w + ")", x, x.steps(w), want[w]);
        }
        s.due("the WORD stays", x.word(2, 2), 2);

        s.says("(2).");
        s.refused(Makers::busy, "steps(6)", y -> y.steps(6), 2);
        s.refused(Makers::busy, "steps(-1)", y -> y.steps(-1), 2);
    }

    private void length() {
        s.promise(25);
        s.says("LENGTH of a LOOP");
        GluedWords x = Check.made(TWO + "word 0 3;word 0 1 > 0 1 < 0;word 0 > 0 1 < 0;word 0 > 0 1 < 0 1 > 0 1 < 0 2;");
        int[] want = {0, 2, 0, 2};
        for (int w = 0; w < want.length; w++) {
            s.good("length(" + w + ")", x, x.length(w), want[w]);
        }
        GluedWords most = Makers.longest();
        s.good("length of 24", most, most.length(0), 24);

        s.says("(2; 4).");
        s.refused(Makers::busy, "length(6)", y -> y.length(6), 2);
        s.refused(Makers::busy, "length(-1)", y -> y.length(-1), 2);
        s.refused(Makers::busy, "length(1)", y -> y.length(1), 4);
    }

    private void orderOf() {
        s.promise(26);
        s.says("ORDER of a LOOP");
        GluedWords x = Check.made(TWO + "word 0;word 0 1;word 0 2;word 1 4;word 0 1 > 0 1 < 0;word 0 1 > 0 2 < 0 3;word 0 > 0 3 < 0;");
        int[] want = {1, 4, 2, 3, 0, 3, 2};
        for (int w = 0; w < want.length; w++) {
            s.good("orderOf(" + w + ")", x, x.orderOf(w), want[w]);
        }

        s.says("(2; 4).");
        s.refused(Makers::busy, "orderOf(6)", y -> y.orderOf(6), 2);
        s.refused(Makers::busy, "orderOf(-1)", y -> y.orderOf(-1), 2);
        s.refused(Makers::busy, "orderOf(1)", y -> y.orderOf(1), 4);
    }

    private void kin() {
        s.promise(27);
        s.says("1 if two LOOPS are KIN, else 0");
        GluedWords x = Check.made(TWO + "word 0 1 > 0 1 < 0;word 1 1 < 0 1 > 0;word 0 1 > 0 2 < 0;word 0 2;word 1 3;word 1;");
        int[][] want = {{0, 0, 1}, {0, 1, 1}, {1, 0, 1}, {0, 2, 0}, {3, 4, 1}, {4, 3, 1}, {3, 5, 0}, {0, 5, 0}, {5, 0, 0}};
        for (int[] w : want) {
            s.good("kin(" + w[0] + ", " + w[1] + ")", x, x.kin(w[0], w[1]), w[2]);
        }

        s.says("(2; 4).");
        s.refused(Makers::busy, "kin(0, 6)", y -> y.kin(0, 6), 2);
        s.refused(Makers::busy, "kin(-1, 0)", y -> y.kin(-1, 0), 2);
        s.refused(Makers::busy, "kin(1, 6)", y -> y.kin(1, 6), 2);
        s.refused(Makers::busy, "kin(0, 1)", y -> y.kin(0, 1), 4);
        s.refused(Makers::busy, "kin(1, 0)", y -> y.kin(1, 0), 4);
    }

    private void by(GluedWords x, int word, int other, int steps, int number) {
        s.good("kinBy(" + word + ", " + other + ", 0)", x, x.kinBy(word, other, 0), steps);
        s.good("kinBy(" + word + ", " + other + ", 1)", x, x.kinBy(word, other, 1), number);
    }

    private void kinBy() {
        s.promise(28);
        s.says("Of two that are KIN, with STEPS, what 0: how many STEPS of the first CORE it is begun behind, 1: the number"
                + " that is taken from ahead,");
        GluedWords x = Check.made("vertex 6;edge 0 6 0 6;word 0 1 > 0 2 > 0 3 > 0 4;word 0 1 > 0 2 > 0 3 > 0 4;word 0 2 > 0 2 > 0 3 > 0 3;"
                + "word 0 > 0 3 > 0 5 > 0 2;word 0 3 > 0 5 > 0 2 > 0;word 0 4 > 0 5 > 0 2 > 0 5;");
        by(x, 0, 1, 0, 0);
        by(x, 0, 2, 0, 5);
        // begun behind one: 2 > 3 > 5 > 0
        by(x, 0, 3, 1, 2);
        // begun behind two: 3 > 5 > 2 > 0
        by(x, 0, 4, 2, 0);
        by(x, 0, 5, 2, 5);
        GluedWords elsewhere = Check.made(TWO + "word 1 1 < 0 1 > 0;word 1 < 0 1 > 0 1;word 0 1 > 0 1 < 0;");
        by(elsewhere, 0, 0, 0, 0);
        by(elsewhere, 0, 1, 0, 1);
        by(elsewhere, 0, 2, 1, 0);
        // 0 less 1 is 3: 1 is left, 3 carried; 3 and 1 leave 1, 2 is carried; 2 and 1 and 1 are 0, round
        GluedWords carried = Check.made(TWO + "word 0 > 0 1 < 0 1;word 0 1 > 0 1 < 0;");
        by(carried, 0, 1, 0, 1);

        s.says("of several the fewest STEPS, of these the least number;");
        // begun behind one or three it is the same
        GluedWords y = Check.made("vertex 6;edge 0 6 0 6;word 0 > 0 1 > 0 > 0 1 > 0;word 0 1 > 0 > 0 1 > 0 > 0;word 0 > 0 1 > 0 > 0 1 > 0;");
        by(y, 0, 1, 1, 0);
        by(y, 0, 2, 0, 0);
        // 1, 3 or 5 taken gives the same, and so does 0, 2 or 4
        GluedWords z = Check.made("vertex 6;edge 0 2 0 2;word 0 > 0;word 0 1 > 0 5;word 0 > 0;");
        by(z, 0, 1, 0, 1);
        by(z, 0, 2, 0, 0);

        s.says("without STEPS, 0: how many EDGES it goes along at least, 1: 0");
        GluedWords w = Check.made("vertex 2;".repeat(6) + "edge 0 1 1 1;edge 2 1 1 1;edge 2 1 3 1;edge 4 1 3 1;edge 4 1 5 1;edge 5 2 0 2;"
                + "word 0 1;word 0 1;word 1 1;word 3 1;word 5 1;word 0;word 5;");
        by(w, 0, 1, 0, 0);
        by(w, 0, 2, 1, 0);
        by(w, 0, 3, 3, 0);
        by(w, 0, 4, 5, 0);
        by(w, 4, 0, 5, 0);
        // 0 goes along the EDGE that 1 can't go along
        by(w, 5, 6, 1, 0);
        GluedWords both = Check.made("vertex 6;edge 0 6 0 6;word 0 1 > 0;word 0 > 0 1;word 0 4;");
        by(both, 0, 1, 0, 1);
        by(both, 2, 2, 0, 0);

        s.says("(1; 2; 4; 5: not KIN).");
        s.refused(Makers::busy, "kinBy(0, 0, -1)", v -> v.kinBy(0, 0, -1), 1);
        s.refused(Makers::busy, "kinBy(0, 0, 2)", v -> v.kinBy(0, 0, 2), 1);
        s.refused(Makers::busy, "kinBy(6, 0, 2)", v -> v.kinBy(6, 0, 2), 1);
        s.refused(Makers::busy, "kinBy(1, 0, 2)", v -> v.kinBy(1, 0, 2), 1);
        s.refused(Makers::busy, "kinBy(0, 2, 2)", v -> v.kinBy(0, 2, 2), 1);
        s.refused(Makers::busy, "kinBy(6, 0, 0)", v -> v.kinBy(6, 0, 0), 2);
        s.refused(Makers::busy, "kinBy(1, 6, 1)", v -> v.kinBy(1, 6, 1), 2);
        s.refused(Makers::busy, "kinBy(0, -1, 1)", v -> v.kinBy(0, -1, 1), 2);
        s.refused(Makers::busy, "kinBy(0, 1, 0)", v -> v.kinBy(0, 1, 0), 4);
        s.refused(Makers::busy, "kinBy(1, 2, 1)", v -> v.kinBy(1, 2, 1), 4);
        s.refused(Makers::busy, "kinBy(0, 2, 0)", v -> v.kinBy(0, 2, 0), 5);
        s.refused(Makers::busy, "kinBy(2, 4, 1)", v -> v.kinBy(2, 4, 1), 5);
    }

    private void kins() {
        s.promise(29);
        s.says("All kept LOOPS that are KIN to one, and that itself, as a SET (bits)");
        GluedWords x = Check.made(TWO + "word 0 1 > 0 1 < 0;word 1 1 < 0 1 > 0;word 0 > 0;word 0 2;word 0 1;word 1 3;");
        int[] want = {0b11, 0b11, -1, 0b101000, 0b10000, 0b101000};
        for (int w = 0; w < want.length; w++) {
            if (w != 2) {
                s.good("kins(" + w + ")", x, x.kins(w), want[w]);
            }
        }
        GluedWords ten = Check.made("vertex 2;" + "word 0;".repeat(10));
        s.good("kins(9) of ten", ten, ten.kins(9), 1023);
        GluedWords one = Check.made("vertex 2;word 0 1;");
        s.good("kins(0) of one", one, one.kins(0), 1);

        s.says("(2; 4).");
        s.refused(Makers::busy, "kins(6)", y -> y.kins(6), 2);
        s.refused(Makers::busy, "kins(-1)", y -> y.kins(-1), 2);
        s.refused(Makers::busy, "kins(1)", y -> y.kins(1), 4);
    }

    private void net() {
        s.promise(30);
        s.says("NET of a WORD by an EDGE");
        GluedWords x = Check.made("vertex 1;edge 0 1 0 1;edge 0 1 0 1;word 0 > 0 > 0 < 1;word 0;word 0 < 0;");
        s.good("net(0, 0)", x, x.net(0, 0), 2);
        s.good("net(0, 1)", x, x.net(0, 1), -1);
        s.good("net(1, 1)", x, x.net(1, 1), 0);

        s.says("(2);");
        s.refused(Makers::busy, "net(6, 0)", y -> y.net(6, 0), 2);
        s.refused(Makers::busy, "net(-1, 0)", y -> y.net(-1, 0), 2);
        s.refused(Makers::busy, "net(0, 1)", y -> y.net(0, 1), 2);
        s.refused(Makers::busy, "net(0, -1)", y -> y.net(0, -1), 2);

        s.says("STATUS tells NONE from -1.");
        s.good("net(2, 0)", x, x.net(2, 0), -1);
        s.none("net(3, 0)", x, x.net(3, 0), 2);
    }

    private void central() {
        s.promise(31);
        s.says("1 if a number of a VERTEX is CENTRAL, else 0");
        GluedWords x = Check.made(TWO + "vertex 1;");
        int[][] want = {{0, 0, 1}, {0, 1, 0}, {0, 2, 1}, {0, 3, 0}, {1, 5, 0}, {1, 3, 1}, {2, 0, 1}};
        for (int[] w : want) {
            s.good("central(" + w[0] + ", " + w[1] + ")", x, x.central(w[0], w[1]), w[2]);
        }

        s.says("(1: not 0 to its ORDER less 1; 2).");
        s.refused(Makers::busy, "central(0, -1)", y -> y.central(0, -1), 1);
        s.refused(Makers::busy, "central(0, 4)", y -> y.central(0, 4), 1);
        s.refused(Makers::busy, "central(1, 6)", y -> y.central(1, 6), 1);
        s.refused(Makers::busy, "central(0, greatest)", y -> y.central(0, GREATEST), 1);
        s.refused(Makers::busy, "central(2, -1)", y -> y.central(2, -1), 1);
        s.refused(Makers::busy, "central(2, 0)", y -> y.central(2, 0), 2);
        s.refused(Makers::busy, "central(-1, 3)", y -> y.central(-1, 3), 2);
    }

    private void centre() {
        s.promise(32);
        s.says("How many numbers of a VERTEX are CENTRAL");
        GluedWords x = Check.made("vertex 60;vertex 12;vertex 7;vertex 5;edge 0 10 1 2;edge 3 5 3 5;");
        int[] want = {6, 6, 7, 1};
        for (int v = 0; v < want.length; v++) {
            s.good("centre(" + v + ")", x, x.centre(v), want[v]);
        }

        s.says("(2).");
        s.refused(Makers::busy, "centre(2)", y -> y.centre(2), 2);
        s.refused(Makers::busy, "centre(-1)", y -> y.centre(-1), 2);
        s.refused(Makers::bare, "centre(0)", y -> y.centre(0), 2);
    }

    private void having() {
        s.promise(33);
        s.says("How many numbers of a VERTEX have an ORDER (as LOOPS)");
        GluedWords x = Check.made("vertex 60;vertex 1;");
        int[][] want = {{1, 1}, {2, 1}, {3, 2}, {7, 0}, {12, 4}, {30, 8}, {59, 0}, {60, 16}, {61, 0}, {120, 0}};
        for (int[] w : want) {
            s.good("having(0, " + w[0] + ")", x, x.having(0, w[0]), w[1]);
        }
        s.good("having(1, 1)", x, x.having(1, 1), 1);
        s.good("having(1, 2)", x, x.having(1, 2), 0);

        s.says("(1: ORDER below 1; 2).");
        s.refused(Makers::busy, "having(0, 0)", y -> y.having(0, 0), 1);
        s.refused(Makers::busy, "having(0, least)", y -> y.having(0, LEAST), 1);
        s.refused(Makers::busy, "having(2, 0)", y -> y.having(2, 0), 1);
        s.refused(Makers::busy, "having(2, 1)", y -> y.having(2, 1), 2);
        s.refused(Makers::busy, "having(-1, 1)", y -> y.having(-1, 1), 2);
    }

    private void root() {
        s.promise(34);
        s.says("ROOT of a LOOP");
        GluedWords x = Check.made(TWO + "word 0 1 > 0 1 < 0;word 0 1 > 0 1 < 0 1 > 0 1 < 0;word 0 1 > 0 1 < 0 1 > 0 1 < 0 2;");
        s.good("root(0)", x, x.root(0), 1);
        s.good("root(1)", x, x.root(1), 2);
        // 2 behind is central: it is that of no half, for twice 2 is nothing and twice 0 is not 2
        s.good("root(2)", x, x.root(2), 1);
        GluedWords most = Makers.longest();
        s.good("root of 24", most, most.root(0), 24);
        s.good("root of 1", most, most.root(1), 1);

        s.says("(2; 4; 5: LENGTH 0).");
        s.refused(Makers::busy, "root(6)", y -> y.root(6), 2);
        s.refused(Makers::busy, "root(-1)", y -> y.root(-1), 2);
        s.refused(Makers::busy, "root(1)", y -> y.root(1), 4);
        s.refused(Makers::busy, "root(2)", y -> y.root(2), 5);
        s.refused(WordBounds::stepsWithoutLength, "root(0)", y -> y.root(0), 5);
    }

    /** A LOOP with STEPS in its FORM and none in its CORE. */
    private static GluedWords stepsWithoutLength() {
        return Check.made(TWO + "word 0 1 > 0 2 < 0 3;");
    }

    private void swaps() {
        s.promise(35);
        s.says("1 if the PRODUCT of two LOOPS (however many STEPS it has) is ALIKE that of the second and the first, else 0");
        GluedWords x = Check.made(TWO + "word 0 1 > 0 1 < 0;word 0 2;word 0 1;word 0;word 0 1 > 0 1 < 0 1 > 0 1 < 0;");
        int[][] want = {{0, 1, 1}, {0, 2, 0}, {1, 2, 1}, {0, 0, 1}, {0, 3, 1}, {0, 4, 1}, {4, 2, 0}};
        for (int[] w : want) {
            s.good("swaps(" + w[0] + ", " + w[1] + ")", x, x.swaps(w[0], w[1]), w[2]);
            s.good("swaps(" + w[1] + ", " + w[0] + ")", x, x.swaps(w[1], w[0]), w[2]);
        }
        GluedWords y = Check.made("vertex 2;edge 0 2 0 2;edge 0 1 0 1;word 0" + ">0".repeat(24) + ";word 0" + ">0".repeat(23)
                + ">1;word 0" + ">0".repeat(24) + " 1;");
        s.good("48 STEPS", y, y.swaps(0, 0), 1);
        s.good("48 STEPS, the last another", y, y.swaps(0, 1), 0);
        s.good("48 STEPS, the number in the middle another", y, y.swaps(0, 2), 0);

        s.says("(2; 4).");
        s.refused(Makers::busy, "swaps(6, 0)", z -> z.swaps(6, 0), 2);
        s.refused(Makers::busy, "swaps(0, -1)", z -> z.swaps(0, -1), 2);
        s.refused(Makers::busy, "swaps(1, 6)", z -> z.swaps(1, 6), 2);
        s.refused(Makers::busy, "swaps(0, 1)", z -> z.swaps(0, 1), 4);
        s.refused(Makers::busy, "swaps(1, 0)", z -> z.swaps(1, 0), 4);
        s.refused(Makers::busy, "swaps(0, 3), LOOPS elsewhere", z -> z.swaps(0, 3), 4);
    }

    private void alikes() {
        s.promise(36);
        s.says("All kept WORDS that are ALIKE one, and that itself, as a SET");
        GluedWords x = Check.made(TWO + "word 0 3 > 0;word 0 2;word 0 1 > 0 3;word 0 > 0 3 < 0;word 1 2;word 0 1 > 0;");
        int[] want = {0b101, 0b1010, 0b101, 0b1010, 0b10000, 0b100000};
        for (int w = 0; w < want.length; w++) {
            s.good("alikes(" + w + ")", x, x.alikes(w), want[w]);
        }
        GluedWords ten = Check.made("vertex 2;" + "word 0 1;".repeat(10));
        s.good("alikes(0) of ten", ten, ten.alikes(0), 1023);

        s.says("(2).");
        s.refused(Makers::busy, "alikes(6)", y -> y.alikes(6), 2);
        s.refused(Makers::busy, "alikes(-1)", y -> y.alikes(-1), 2);
        s.refused(Makers::bare, "alikes(0)", y -> y.alikes(0), 2);
    }

    private void twin() {
        s.promise(37);
        s.says("The first WORD that is ALIKE one, but that itself");
        GluedWords x = Check.made(TWO + "word 0 3 > 0;word 0 2;word 0 1 > 0 3;word 0 > 0 3 < 0;word 0 1 > 0 3;");
        int[] want = {2, 3, 0, 1, 0};
        for (int w = 0; w < want.length; w++) {
            s.good("twin(" + w + ")", x, x.twin(w), want[w]);
        }

        s.says("(2; 5).");
        s.refused(Makers::busy, "twin(6)", y -> y.twin(6), 2);
        s.refused(Makers::busy, "twin(-1)", y -> y.twin(-1), 2);
        s.refused(Makers::busy, "twin(0)", y -> y.twin(0), 5);
        s.refused(() -> Check.made("vertex 2;vertex 2;word 0 1;word 1 1;"), "twin(0), the other at another VERTEX", y -> y.twin(0), 5);
    }
}
