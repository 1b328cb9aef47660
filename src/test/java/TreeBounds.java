/** Part 3 of the terms, and promises 38 to 50: the tree, how many there are, OUT, CHI. */
final class TreeBounds {
    private static final String TWO = Makers.TWO;
    private static final String WIDE = Makers.WIDE;
    private static final long MOST = Makers.MOST_TOLD;
    private static final int LEAST = Integer.MIN_VALUE;
    private static final int GREATEST = Integer.MAX_VALUE;
    /** Two words of 24 steps, 48 apart. */
    private static final String FAR = "vertex 2;edge 0 2 0 2;word 0" + ">0".repeat(24) + ";word 0 1" + ">0".repeat(24) + ";";
    private final Sentences s;

    TreeBounds(Sentences s) {
        this.s = s;
    }

    void all() {
        s.section("part 3");
        tree();
        held();
        counts();
        alone();
        mostTold();
        listing();
        chiAndCircles();
        apart();
        moves();
        way();
        holds();
        axis();
        ball();
        sphere();
        listed();
        near();
        meet();
        tell();
        out();
        chi();
    }

    private void tree() {
        s.says("The TREE of a VERTEX u: its PLACES are WORDS that begin at u, two of them the same, if they end at one VERTEX,"
                + " and their FORMS differ in the last number alone.");
        GluedWords x = Check.made(TWO + "word 0 1 > 0 1;word 0 3 > 0 2;word 0 > 0 1;word 0 1;word 0 2;word 0 1 > 0 1 < 0 3;");
        s.due("1 > 1 and 1 > 5", x.apart(0, 1), 0);
        s.due("1 > 1 and 0 > 1", x.apart(0, 2), 2);
        s.due("1 and 2", x.apart(3, 4), 0);
        s.due("1 > 1 and 1", x.apart(0, 3), 1);
        s.due("1 > 1 < 3 and 1 > 1", x.apart(5, 0), 1);

        s.says("Two are as far APART as the FORM of the first TURNED, times the second, has STEPS.");
        for (int w = 0; w < 6; w++) {
            int turned = x.turned(w);
            int both = x.times(turned, 5);
            s.due("apart(" + w + ", 5)", x.apart(w, 5), x.word(both, 2));
            x.drop(both);
            x.drop(turned);
        }
        GluedWords far = Check.made(FAR);
        s.due("more than a WORD can have", far.apart(0, 1), 48);

        s.says("A LOOP at u MOVES a PLACE to that of the PRODUCT of it and that WORD.");
        GluedWords y = Check.made(TWO + "word 0 1 > 0 1 < 0;word 0 1;word 0 > 0 2;word 0 1 > 0 1 < 0 1 > 0 2;");
        int[][] want = {{0, 1, 2}, {0, 2, 2}, {1, 1, 0}, {1, 2, 2}, {0, 3, 2}, {1, 3, 6}};
        for (int[] w : want) {
            int moved = y.times(w[0], w[1]);
            s.due("moves(" + w[0] + ", " + w[1] + ")", y.moves(w[0], w[1]), w[2]);
            s.due("to the PLACE of the PRODUCT", y.apart(w[1], moved), w[2]);
            y.drop(moved);
        }
    }

    private void held() {
        s.says("HELD by a LOOP of LENGTH 0, within r: PLACES in the TREE of the VERTEX at which its CORE is, no more than r from"
                + " that of the WORD without STEPS there, that the CORE MOVES by 0.");
        // the CORE of word 0 is 2 at VERTEX 1: it goes along EDGE 1 alone, by 2 ways, then by 3 less the way back
        GluedWords x = Check.made("vertex 2;vertex 4;vertex 6;edge 0 2 1 4;edge 1 2 2 3;word 0 1 > 0 2 < 0 1;word 0;word 0 1;word 2 3;");
        long[][] want = {{1, 3, 7, 11}, {1, 3, 13, 27}, {1, 1, 1, 1}, {1, 4, 7, 13}};
        for (int w = 0; w < want.length; w++) {
            for (int r = 0; r < 4; r++) {
                s.good("holds(" + w + ", " + r + ")", x, x.holds(w, r), want[w][r]);
            }
        }
    }

    private void counts() {
        s.says("BALL: PLACES no more than r from that of the WORD without STEPS.");
        GluedWords x = Check.made(TWO + "vertex 9;");
        long[] balls = {1, 3, 7, 11, 19};
        for (int r = 0; r < balls.length; r++) {
            s.good("ball(0, " + r + ")", x, x.ball(0, r), balls[r]);
        }
        s.good("a VERTEX without EDGES", x, x.ball(2, 12), 1);

        s.says("SPHERE of FORMS: LOOPS at u, no two ALIKE, whose FORM has k STEPS.");
        long[] spheres = {4, 0, 16, 0, 32};
        for (int k = 0; k < spheres.length; k++) {
            s.good("sphere(0, " + k + ")", x, x.sphere(0, k), spheres[k]);
        }
        s.good("a VERTEX without EDGES", x, x.sphere(2, 0), 9);
        s.good("a VERTEX without EDGES, a STEP", x, x.sphere(2, 1), 0);
    }

    /** A VERTEX without EDGES: its TREE is one PLACE, all its LOOPS have LENGTH 0. */
    private void alone() {
        s.says("SPHERE of FORMS: LOOPS at u, no two ALIKE, whose FORM has k STEPS.");
        GluedWords x = Check.made("vertex 7;word 0 3;word 0 3;word 0 4;");
        s.good("ball(0, 12)", x, x.ball(0, 12), 1);
        s.good("holds(0, 12)", x, x.holds(0, 12), 1);
        s.good("sphere(0, 0)", x, x.sphere(0, 0), 7);
        s.good("sphere(0, 12)", x, x.sphere(0, 12), 0);
        s.good("listed(2)", x, x.listed(2), 4);
        s.good("meet(0)", x, x.meet(0), 0);
        s.good("centre(0)", x, x.centre(0), 7);
        s.good("near(0, 0)", x, x.near(0, 0), 0b111);
        s.good("apart(0, 2)", x, x.apart(0, 2), 0);
        s.good("moves(0, 2)", x, x.moves(0, 2), 0);
        s.good("way(0, 2, 0)", x, x.way(0, 2, 0), 0);
        s.good("length(0)", x, x.length(0), 0);
        s.good("orderOf(0)", x, x.orderOf(0), 7);
        s.good("swaps(0, 2)", x, x.swaps(0, 2), 1);
        s.good("kins(0)", x, x.kins(0), 0b011);
        s.good("kinBy(0, 1, 0)", x, x.kinBy(0, 1, 0), 0);
        s.none("kinBy(0, 2, 0)", x, x.kinBy(0, 2, 0), 5);
        s.none("root(0)", x, x.root(0), 5);
        s.none("axis(0, 0)", x, x.axis(0, 0), 5);
        s.none("spell(0, 1, 0)", x, x.spell(0, 1, 0), 5);
        s.good("spell(0, 0, 6)", x, x.spell(0, 0, 6), 3);
    }

    private void mostTold() {
        s.says("(Of all these 1,000,000,000,000 at most are told.)");
        GluedWords heldLess = Check.made("vertex 24;vertex 20;edge 1 5 0 6;edge 1 2 1 2;edge 0 6 0 6;edge 0 1 0 1;edge 0 24 0 24;word 0 12;");
        s.good("holds(), a little less", heldLess, heldLess.holds(0, 10), 999_991_033_647L);
        s.good("holds(), much more", heldLess, heldLess.holds(0, 11), MOST);
        GluedWords heldMore = Check.made("vertex 36;vertex 4;edge 0 12 0 12;edge 0 9 0 9;edge 0 18 1 2;edge 0 1 0 1;word 0 18;");
        s.good("holds(), a little more", heldMore, heldMore.holds(0, 9), MOST);
        GluedWords ballLess = Check.made("vertex 6;vertex 5;edge 0 1 0 1;edge 1 1 1 1;edge 1 1 1 1;edge 0 6 0 6;edge 1 5 0 6;");
        s.good("ball(), a little less", ballLess, ballLess.ball(0, 10), 999_991_033_647L);
        s.good("ball(), much more", ballLess, ballLess.ball(0, 11), MOST);
        GluedWords ballMore = Check.made("vertex 3;vertex 20;vertex 9;edge 1 20 2 9;edge 1 20 0 3;");
        s.good("ball(), a little more", ballMore, ballMore.ball(0, 11), MOST);
        GluedWords sphereLess = Check.made("vertex 24;vertex 48;edge 0 6 1 12;edge 0 8 0 8;edge 0 8 0 8;");
        s.good("sphere(), a little less", sphereLess, sphereLess.sphere(0, 7), 999_990_780_672L);
        s.good("sphere(), much more", sphereLess, sphereLess.sphere(0, 8), MOST);
        GluedWords sphereMore = Check.made("vertex 7;vertex 30;vertex 25;edge 1 2 1 2;edge 0 7 1 30;edge 0 7 2 25;");
        s.good("sphere(), a little more", sphereMore, sphereMore.sphere(0, 9), MOST);
        GluedWords most = Check.made(WIDE + "word 0;");
        s.good("ball(), as many as there can be", most, most.ball(0, 12), MOST);
        s.good("sphere(), as many as there can be", most, most.sphere(0, 12), MOST);
        s.good("holds(), as many as there can be", most, most.holds(0, 12), MOST);
    }

    private void list(String graph, int k, String... lines) {
        GluedWords x = Check.made(graph);
        for (int i = 0; i < lines.length; i++) {
            x.spell(0, k, i);
            s.line(x, 0, lines[i]);
            s.good("listed() of " + lines[i], x, x.listed(0), i);
            x.drop(0);
        }
        s.good("sphere(0, " + k + ")", x, x.sphere(0, k), lines.length);
    }

    private void listing() {
        s.says("LISTED are the FORMS of a SPHERE, from 0 on: by the first STEP (as step() tells it), the least first, then by the"
                + " number ahead of it, then likewise by the next STEP, the number ahead of that, and so on, last by the last number.");
        list("vertex 2;edge 0 2 0 2;", 0, "word 0 0;", "word 0 1;");
        list("vertex 2;edge 0 2 0 2;", 1, "word 0 0 > 0 0;", "word 0 0 > 0 1;", "word 0 1 > 0 0;", "word 0 1 > 0 1;",
                "word 0 0 < 0 0;", "word 0 0 < 0 1;", "word 0 1 < 0 0;", "word 0 1 < 0 1;");
        list("vertex 2;edge 0 2 0 2;", 2,
                "word 0 0 > 0 0 > 0 0;", "word 0 0 > 0 0 > 0 1;", "word 0 0 > 0 1 > 0 0;", "word 0 0 > 0 1 > 0 1;",
                "word 0 0 > 0 1 < 0 0;", "word 0 0 > 0 1 < 0 1;", "word 0 1 > 0 0 > 0 0;", "word 0 1 > 0 0 > 0 1;",
                "word 0 1 > 0 1 > 0 0;", "word 0 1 > 0 1 > 0 1;", "word 0 1 > 0 1 < 0 0;", "word 0 1 > 0 1 < 0 1;",
                "word 0 0 < 0 1 > 0 0;", "word 0 0 < 0 1 > 0 1;", "word 0 0 < 0 0 < 0 0;", "word 0 0 < 0 0 < 0 1;",
                "word 0 0 < 0 1 < 0 0;", "word 0 0 < 0 1 < 0 1;", "word 0 1 < 0 1 > 0 0;", "word 0 1 < 0 1 > 0 1;",
                "word 0 1 < 0 0 < 0 0;", "word 0 1 < 0 0 < 0 1;", "word 0 1 < 0 1 < 0 0;", "word 0 1 < 0 1 < 0 1;");
        // from VERTEX 0 the STEPS are 1 and 2; the EDGE by which one came has no other place there
        list("vertex 2;vertex 1;edge 1 1 0 2;edge 0 2 1 1;", 2,
                "word 0 0 < 0 0 < 1 0;", "word 0 0 < 0 0 < 1 1;", "word 0 1 < 0 0 < 1 0;", "word 0 1 < 0 0 < 1 1;",
                "word 0 0 > 1 0 > 0 0;", "word 0 0 > 1 0 > 0 1;", "word 0 1 > 1 0 > 0 0;", "word 0 1 > 1 0 > 0 1;");
        list("vertex 2;vertex 1;edge 1 1 0 2;edge 0 2 1 1;", 3);
        list("vertex 1;edge 0 1 0 1;", 0, "word 0 0;");
        list("vertex 1;edge 0 1 0 1;", 12, "word 0 0" + " > 0 0".repeat(12) + ";", "word 0 0" + " < 0 0".repeat(12) + ";");
    }

    private void chiOf(String graph, int above, int below) {
        GluedWords x = Check.made(graph);
        s.good("chi(0) of '" + graph + "'", x, x.chi(0), above);
        s.good("chi(1) of '" + graph + "'", x, x.chi(1), below);
        s.good("chi(0) of '" + graph + "' again", x, x.chi(0), above);
    }

    private void chiAndCircles() {
        s.says("CHI: 1 by ORDER of all VERTICES, added, less 1 by COMMON of all EDGES, in least terms (below above 0).");
        chiOf("", 0, 1);
        chiOf("vertex 1;", 1, 1);
        chiOf("vertex 60;", 1, 60);
        chiOf("vertex 60;".repeat(6), 1, 10);
        chiOf(TWO, -1, 12);
        chiOf("vertex 6;edge 0 1 0 1;", 0, 1);
        chiOf("vertex 6;edge 0 6 0 6;", -5, 6);
        chiOf("vertex 1;" + "edge 0 1 0 1;".repeat(6), -5, 1);

        s.says("CIRCLES: EDGES less VERTICES and how many parts hang together.");
        GluedWords x = Check.made("vertex 1;".repeat(6) + "edge 0 1 1 1;edge 1 1 2 1;edge 2 1 0 1;edge 3 1 3 1;edge 4 1 5 1;edge 5 1 4 1;");
        s.good("CIRCLES", x, x.many(5), 3);
        s.good("parts", x, x.many(6), 3);
        GluedWords none = new GluedWords();
        s.good("CIRCLES of nothing", none, none.many(5), 0);
    }

    private void apart() {
        s.promise(38);
        s.says("How far PLACES of two WORDS are APART (however far)");
        GluedWords x = Check.made(TWO + "word 0;word 0 > 0;word 0 1 > 0;word 0 1 > 0 1 < 0;");
        int[][] want = {{0, 0, 0}, {0, 1, 1}, {1, 2, 2}, {0, 3, 2}, {1, 3, 3}, {2, 3, 1}};
        for (int[] w : want) {
            s.good("apart(" + w[0] + ", " + w[1] + ")", x, x.apart(w[0], w[1]), w[2]);
            s.good("apart(" + w[1] + ", " + w[0] + ")", x, x.apart(w[1], w[0]), w[2]);
        }
        GluedWords far = Check.made(FAR);
        s.good("as far as can be", far, far.apart(0, 1), 48);

        s.says("(2; 4).");
        s.refused(Makers::busy, "apart(0, 6)", y -> y.apart(0, 6), 2);
        s.refused(Makers::busy, "apart(6, 3)", y -> y.apart(6, 3), 2);
        s.refused(Makers::busy, "apart(-1, 0)", y -> y.apart(-1, 0), 2);
        s.refused(Makers::busy, "apart(0, 3)", y -> y.apart(0, 3), 4);
        s.refused(Makers::busy, "apart(3, 1)", y -> y.apart(3, 1), 4);
        s.good("the second does not begin where the first ends", x, x.apart(1, 0), 1);
    }

    private void moves() {
        s.promise(39);
        s.says("How far a LOOP MOVES the PLACE of a WORD: how far that is from where it comes");
        GluedWords x = Check.made(TWO + "word 0 2;word 0 1;word 0 1 > 0 1 < 0;word 0 > 0;word 0 1 > 0 1 < 0 1 > 0 1;");
        int[][] want = {{0, 3, 0}, {0, 4, 0}, {1, 0, 0}, {1, 3, 2}, {1, 4, 6}, {2, 0, 2}, {2, 3, 2}, {2, 4, 2}};
        for (int[] w : want) {
            s.good("moves(" + w[0] + ", " + w[1] + ")", x, x.moves(w[0], w[1]), w[2]);
        }
        GluedWords far = Check.made("vertex 2;edge 0 2 0 2;word 0 1" + " > 0".repeat(24) + ";word 0 1" + " < 0 1".repeat(24) + ";");
        s.good("as far as can be", far, far.moves(0, 1), 72);

        s.says("(2; 4).");
        s.refused(Makers::busy, "moves(6, 0)", y -> y.moves(6, 0), 2);
        s.refused(Makers::busy, "moves(0, -1)", y -> y.moves(0, -1), 2);
        s.refused(Makers::busy, "moves(1, 6)", y -> y.moves(1, 6), 2);
        s.refused(Makers::busy, "moves(1, 0), no LOOP", y -> y.moves(1, 0), 4);
        s.refused(Makers::busy, "moves(0, 3), a WORD elsewhere", y -> y.moves(0, 3), 4);
        s.refused(Makers::busy, "moves(3, 1), a LOOP where the WORD ends", y -> y.moves(3, 1), 4);
    }

    private void way() {
        s.promise(40);
        s.says("At which VERTEX the i-th PLACE on the way from that of a WORD to that of another one ends (0: the first one)");
        GluedWords x = Check.made("vertex 2;vertex 4;vertex 6;edge 0 2 1 4;edge 0 2 2 6;word 0 > 0 1;word 0 1 > 1 5;word 0;word 1;");
        int[][] ways = {{0, 1, 1, 0, 2}, {1, 0, 2, 0, 1}, {2, 0, 0, 1}, {0, 0, 1}, {3, 3, 1}};
        for (int[] w : ways) {
            for (int i = 2; i < w.length; i++) {
                s.good("way(" + w[0] + ", " + w[1] + ", " + (i - 2) + ")", x, x.way(w[0], w[1], i - 2), w[i]);
            }
            s.none("way(" + w[0] + ", " + w[1] + ", " + (w.length - 2) + ")", x, x.way(w[0], w[1], w.length - 2), 5);
        }
        GluedWords far = Check.made(FAR);
        s.good("the last of the longest", far, far.way(0, 1, 48), 0);
        s.none("one behind it", far, far.way(0, 1, 49), 5);

        s.says("(1: i below 0; 2; 4: both do not begin at one VERTEX; 5: not so many).");
        s.refused(Makers::busy, "way(0, 2, -1)", y -> y.way(0, 2, -1), 1);
        s.refused(Makers::busy, "way(6, 0, least)", y -> y.way(6, 0, LEAST), 1);
        s.refused(Makers::busy, "way(0, 3, -1)", y -> y.way(0, 3, -1), 1);
        s.refused(Makers::busy, "way(6, 0, 0)", y -> y.way(6, 0, 0), 2);
        s.refused(Makers::busy, "way(0, -1, 99)", y -> y.way(0, -1, 99), 2);
        s.refused(Makers::busy, "way(0, 3, 0)", y -> y.way(0, 3, 0), 4);
        s.refused(Makers::busy, "way(3, 1, 99)", y -> y.way(3, 1, 99), 4);
        s.refused(Makers::busy, "way(0, 2, 3)", y -> y.way(0, 2, 3), 5);
        s.refused(Makers::busy, "way(2, 2, 1)", y -> y.way(2, 2, 1), 5);
        s.refused(Makers::busy, "way(2, 2, greatest)", y -> y.way(2, 2, GREATEST), 5);
    }

    private void holds() {
        s.promise(41);
        s.says("How many PLACES are HELD by a LOOP, within r (0 to 12)");
        GluedWords x = Check.made(TWO + "word 0 2;word 0 1;word 0 > 0 1 < 0;word 0;word 0 1 > 0 1 < 0;");
        s.good("holds(0, 0)", x, x.holds(0, 0), 1);
        s.good("holds(0, 2)", x, x.holds(0, 2), 7);
        // 2 and 4, 4 and 8, 8 and 16, 16 and 32, 32 and 64, 64 and 128, with the first
        s.good("holds(0, 12)", x, x.holds(0, 12), 379);
        s.good("holds(1, 12)", x, x.holds(1, 12), 1);
        s.good("holds(2, 12)", x, x.holds(2, 12), 1);
        s.good("holds(3, 12)", x, x.holds(3, 12), x.ball(0, 12));

        s.says("(1; 2; 4; 5: LENGTH above 0).");
        s.refused(Makers::busy, "holds(2, -1)", y -> y.holds(2, -1), 1);
        s.refused(Makers::busy, "holds(2, 13)", y -> y.holds(2, 13), 1);
        s.refused(Makers::busy, "holds(6, 13)", y -> y.holds(6, 13), 1);
        s.refused(Makers::busy, "holds(1, -1)", y -> y.holds(1, -1), 1);
        s.refused(Makers::busy, "holds(0, 13)", y -> y.holds(0, 13), 1);
        s.refused(Makers::busy, "holds(6, 0)", y -> y.holds(6, 0), 2);
        s.refused(Makers::busy, "holds(-1, 12)", y -> y.holds(-1, 12), 2);
        s.refused(Makers::busy, "holds(1, 0)", y -> y.holds(1, 0), 4);
        s.refused(Makers::busy, "holds(0, 0)", y -> y.holds(0, 0), 5);
        s.refused(Makers::longest, "holds(1, 12), one STEP", y -> y.holds(1, 12), 5);
    }

    private void axis() {
        s.promise(42);
        s.says("At which VERTEX STEP i of the CORE of a LOOP begins, i as far round as it goes");
        GluedWords x = Check.made("vertex 2;vertex 2;vertex 2;edge 0 2 1 2;edge 1 2 2 2;edge 2 2 0 2;word 1 > 1 > 2 > 0;"
                + "word 0 < 2 1 > 2 > 0 > 1 1 > 2;");
        for (int i = 0; i < 7; i++) {
            s.good("axis(0, " + i + ")", x, x.axis(0, i), (i + 1) % 3);
        }
        // the greatest int leaves 1 by 3
        s.good("axis(0, greatest)", x, x.axis(0, GREATEST), 2);
        // its first STEP and its last are no part of the CORE
        for (int i = 0; i < 4; i++) {
            s.good("axis(1, " + i + ")", x, x.axis(1, i), (i + 2) % 3);
        }
        GluedWords one = Check.made("vertex 1;edge 0 1 0 1;word 0 > 0;");
        s.good("axis() of one STEP", one, one.axis(0, GREATEST), 0);

        s.says("(1: below 0; 2; 4; 5: LENGTH 0).");
        s.refused(Makers::busy, "axis(0, -1)", y -> y.axis(0, -1), 1);
        s.refused(Makers::busy, "axis(6, least)", y -> y.axis(6, LEAST), 1);
        s.refused(Makers::busy, "axis(1, -1)", y -> y.axis(1, -1), 1);
        s.refused(Makers::busy, "axis(2, -1)", y -> y.axis(2, -1), 1);
        s.refused(Makers::busy, "axis(6, 0)", y -> y.axis(6, 0), 2);
        s.refused(Makers::busy, "axis(-1, 0)", y -> y.axis(-1, 0), 2);
        s.refused(Makers::busy, "axis(1, 0)", y -> y.axis(1, 0), 4);
        s.refused(Makers::busy, "axis(2, 0)", y -> y.axis(2, 0), 5);
    }

    private void ball() {
        s.promise(43);
        s.says("The BALL of r (0 to 12) in the TREE of a VERTEX");
        GluedWords x = Check.made("vertex 1;edge 0 1 0 1;vertex 5;edge 1 5 1 5;");
        s.good("ball(0, 0)", x, x.ball(0, 0), 1);
        s.good("ball(0, 12), a row", x, x.ball(0, 12), 25);
        s.good("ball(1, 1)", x, x.ball(1, 1), 11);
        s.good("ball(1, 2)", x, x.ball(1, 2), 101);

        s.says("(1; 2).");
        s.refused(Makers::busy, "ball(0, -1)", y -> y.ball(0, -1), 1);
        s.refused(Makers::busy, "ball(0, 13)", y -> y.ball(0, 13), 1);
        s.refused(Makers::busy, "ball(2, 13)", y -> y.ball(2, 13), 1);
        s.refused(Makers::busy, "ball(2, 0)", y -> y.ball(2, 0), 2);
        s.refused(Makers::busy, "ball(-1, 12)", y -> y.ball(-1, 12), 2);
        s.refused(Makers::bare, "ball(0, 0)", y -> y.ball(0, 0), 2);
    }

    private void sphere() {
        s.promise(44);
        s.says("The SPHERE of FORMS of k (0 to 12) STEPS at a VERTEX");
        GluedWords x = Check.made(TWO);
        s.good("sphere(0, 0)", x, x.sphere(0, 0), 4);
        s.good("sphere(1, 0)", x, x.sphere(1, 0), 6);
        s.good("sphere(0, 11)", x, x.sphere(0, 11), 0);
        s.good("sphere(0, 12)", x, x.sphere(0, 12), 512);
        // 3 times 2^5 and 1^6 times 6
        s.good("sphere(1, 12)", x, x.sphere(1, 12), 576);

        s.says("(1; 2).");
        s.refused(Makers::busy, "sphere(0, -1)", y -> y.sphere(0, -1), 1);
        s.refused(Makers::busy, "sphere(0, 13)", y -> y.sphere(0, 13), 1);
        s.refused(Makers::busy, "sphere(2, 13)", y -> y.sphere(2, 13), 1);
        s.refused(Makers::busy, "sphere(2, 0)", y -> y.sphere(2, 0), 2);
        s.refused(Makers::busy, "sphere(-1, 12)", y -> y.sphere(-1, 12), 2);
        s.refused(Makers::bare, "sphere(0, 0)", y -> y.sphere(0, 0), 2);
    }

    private void listed() {
        s.promise(45);
        s.says("Where the FORM of a LOOP is LISTED in its SPHERE");
        GluedWords x = Check.made(TWO + "word 0;word 0 3;word 0 > 0 1 < 0;word 0 1 > 0 2 < 0 3;word 0 3 > 0 4 < 0 1;word 0 > 0 3 < 0 1;"
                + "word 0 1" + ">0 2<0 1".repeat(5) + ">0 2<0 3;");
        long[] want = {0, 3, 0, 15, 9, 3, 511};
        for (int w = 0; w < want.length; w++) {
            s.good("listed(" + w + ")", x, x.listed(w), want[w]);
        }
        // 44 by 719^3 * 60, 603 by 719^2 * 60, 502 by 719 * 60, 49 by 60, 39: behind > 0 there is one number less for < 0
        GluedWords y = Check.made(WIDE + "word 0 44 > 0 4 > 5 22 > 4 49 > 0 39;word 0 44 > 0 4 > 5 22 > 4 49 > 0 40;"
                + "word 0 44 > 0 4 > 5 22 > 4 49 > 0 41;word 0 59" + "<5 59".repeat(12) + ";");
        s.good("the last that is told", y, y.listed(0), MOST - 1);
        s.good("the one behind it", y, y.listed(1), MOST);
        s.good("the next: no more are told", y, y.listed(2), MOST);
        s.good("the last of all", y, y.listed(3), MOST);

        s.says("(2; 4; 5: it has more than 12 STEPS).");
        s.refused(Makers::busy, "listed(6)", z -> z.listed(6), 2);
        s.refused(Makers::busy, "listed(-1)", z -> z.listed(-1), 2);
        s.refused(Makers::busy, "listed(1)", z -> z.listed(1), 4);
        String thirteen = "vertex 1;edge 0 1 0 1;vertex 1;edge 0 1 1 1;word 0" + ">0".repeat(13) + ";word 0" + ">0".repeat(13) + ">1;word 0"
                + ">0".repeat(12) + ";word 0" + ">0".repeat(13) + "<0;";
        s.refused(() -> Check.made(thirteen), "13 STEPS", z -> z.listed(0), 5);
        s.refused(() -> Check.made(thirteen), "14 STEPS and no LOOP", z -> z.listed(1), 4);
        GluedWords twelve = Check.made(thirteen);
        s.good("12 STEPS", twelve, twelve.listed(2), 0);
        s.good("12 STEPS in the FORM of 14", twelve, twelve.listed(3), 0);
    }

    private void near() {
        s.promise(46);
        s.says("The kept WORDS that begin where one begins, whose PLACES are no more than r (0 to 99) from its, as a SET");
        GluedWords x = Check.made(TWO + "word 0;word 0 > 0;word 0 1 > 0;word 0 1 > 0 1 < 0;word 1;word 0 3;");
        int[][] want = {{0, 0, 0b100001}, {0, 1, 0b100111}, {0, 2, 0b101111}, {0, 99, 0b101111}, {1, 2, 0b100111}, {1, 3, 0b101111},
            {4, 99, 0b10000}};
        for (int[] w : want) {
            s.good("near(" + w[0] + ", " + w[1] + ")", x, x.near(w[0], w[1]), w[2]);
        }
        GluedWords far = Check.made(FAR);
        s.good("near(0, 47)", far, far.near(0, 47), 0b01);
        s.good("near(0, 48)", far, far.near(0, 48), 0b11);
        GluedWords ten = Check.made("vertex 2;" + "word 0 1;".repeat(10));
        s.good("near(9, 0) of ten", ten, ten.near(9, 0), 1023);

        s.says("(1; 2).");
        s.refused(Makers::busy, "near(0, -1)", y -> y.near(0, -1), 1);
        s.refused(Makers::busy, "near(0, 100)", y -> y.near(0, 100), 1);
        s.refused(Makers::busy, "near(6, 100)", y -> y.near(6, 100), 1);
        s.refused(Makers::busy, "near(6, 0)", y -> y.near(6, 0), 2);
        s.refused(Makers::busy, "near(-1, 99)", y -> y.near(-1, 99), 2);
    }

    private void meet() {
        s.promise(47);
        s.says("How many EDGES meet a PLACE in the TREE that ends at a VERTEX");
        GluedWords x = Check.made(TWO + "vertex 9;edge 1 2 1 2;");
        int[] want = {2, 7, 0};
        for (int v = 0; v < want.length; v++) {
            s.good("meet(" + v + ")", x, x.meet(v), want[v]);
            s.due("the PLACES beside it", x.ball(v, 1), want[v] + 1);
        }
        GluedWords most = Check.made(WIDE);
        s.good("as many as there can be", most, most.meet(0), 720);

        s.says("(2).");
        s.refused(Makers::busy, "meet(2)", y -> y.meet(2), 2);
        s.refused(Makers::busy, "meet(-1)", y -> y.meet(-1), 2);
        s.refused(Makers::bare, "meet(0)", y -> y.meet(0), 2);
    }

    private void told(GluedWords x, int word, String want) {
        s.good("tell(" + word + ")", x, x.tell(word), want.length());
        for (int i = 0; i < want.length(); i++) {
            s.good("out(" + i + ") of '" + want + "'", x, x.out(i), want.charAt(i));
        }
        s.none("out() behind '" + want + "'", x, x.out(want.length()), 5);
    }

    private void tell() {
        s.promise(48);
        s.says("OUT is a WORD as a LINE of a text tells it (word, the VERTEX, the first number; of each STEP its SIGN, the EDGE,"
                + " the number behind; all with one blank between; then ; without one): how many bytes");
        GluedWords x = Check.made("vertex 60;vertex 60;" + "edge 0 60 1 60;".repeat(6) + "word 1;word 0 9 > 5 10 < 0 59;word 1 10;");
        told(x, 0, "word 1 0;");
        told(x, 1, "word 0 9 > 5 10 < 0 59;");
        told(x, 2, "word 1 10;");
        GluedWords longest = Check.made("vertex 60;edge 0 60 0 60;word 0 59" + ">0 59".repeat(24) + ";");
        told(longest, 0, "word 0 59" + " > 0 59".repeat(24) + ";");

        s.says("(2).");
        s.refused(Makers::busy, "tell(6)", y -> y.tell(6), 2);
        s.refused(Makers::busy, "tell(-1)", y -> y.tell(-1), 2);
        s.refused(Makers::bare, "tell(0)", y -> y.tell(0), 2);
    }

    private void out() {
        s.promise(49);
        s.says("Byte i of OUT");
        GluedWords x = Check.made("vertex 9;word 0 8;word 0 7;");
        x.tell(0);
        s.good("out(0)", x, x.out(0), 'w');
        s.good("out(7)", x, x.out(7), '8');
        s.good("out(8), the last", x, x.out(8), ';');
        x.drop(0);
        s.good("out(7) behind drop()", x, x.out(7), '8');
        x.tell(0);
        s.good("out(7) of another", x, x.out(7), '7');

        s.says("(1: below 0; 5).");
        s.refused(Makers::busy, "out(-1)", y -> y.out(-1), 1);
        s.refused(Makers::bare, "out(least), nothing told", y -> y.out(LEAST), 1);
        s.refused(Makers::busy, "out(21)", y -> y.out(21), 5);
        s.refused(Makers::busy, "out(greatest)", y -> y.out(GREATEST), 5);
        s.refused(Makers::bare, "out(0), nothing told", y -> y.out(0), 5);
    }

    private void chi() {
        s.promise(50);
        s.says("CHI, what 0: above, 1: below");
        chiOf("vertex 4;vertex 6;", 5, 12);
        chiOf("vertex 4;edge 0 4 0 4;", -3, 4);

        s.says("(of each its lowest 32 bits as an int)");
        // 59 * 53 * 47 * 43 * 41 is 259,106,347: 9 times that is above the greatest int, 37 times above 32 bits
        chiOf("vertex 59;vertex 53;vertex 47;vertex 43;vertex 41;", 27_138_729, 259_106_347);
        chiOf("vertex 59;vertex 53;vertex 47;vertex 43;vertex 41;vertex 9;", 503_354_908, -1_963_010_173);
        chiOf("vertex 59;vertex 53;vertex 47;vertex 43;vertex 41;vertex 37;", 1_263_239_320, 997_000_247);
        // six times 1 less: -56,258,369,714 above
        chiOf("vertex 59;vertex 53;vertex 47;vertex 43;vertex 41;vertex 37;" + "edge 0 59 0 59;".repeat(6), -423_794_866, 997_000_247);

        s.says("(1);");
        for (int what : new int[] {-1, 2, LEAST, GREATEST}) {
            s.refused(Makers::busy, "chi(" + what + ")", y -> y.chi(what), 1);
        }

        s.says("STATUS tells NONE from -1.");
        GluedWords x = Check.made(TWO);
        s.good("chi(0)", x, x.chi(0), -1);
        s.none("chi(2)", x, x.chi(2), 1);
    }
}
