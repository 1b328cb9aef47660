/** Part 2 of the terms: forms, products, cores, kin, central numbers, roots; and promises 6 to 11, what there is. */
final class FormBounds {
    private static final String TWO = Makers.TWO;
    private static final int LEAST = Integer.MIN_VALUE;
    private static final int GREATEST = Integer.MAX_VALUE;
    private final Sentences s;

    FormBounds(Sentences s) {
        this.s = s;
    }

    void all() {
        s.section("part 2");
        forms();
        products();
        cores();
        kin();
        central();
        many();
        order();
        edge();
        word();
        number();
        step();
    }

    private void forms() {
        s.says("FORM of a WORD: its STEPS are taken one by one; there is a row of numbers and STEPS, and a number at hand,"
                + " at first the first one.");
        s.form(TWO, "word 0 3;", "word 0 3;");
        s.form(TWO, "word 1;", "word 1 0;");

        s.says("A STEP that is the OPPOSITE of the last one in the row, if the number at hand is k times the INDEX to which"
                + " that one led: a PINCH: that one goes out of the row, the number at hand is the number ahead of it more by"
                + " k times the INDEX from which it led.");
        s.form(TWO, "word 0 1 > 0 < 0 1;", "word 0 2;");
        s.form(TWO, "word 0 1 > 0 3 < 0;", "word 0 3;");
        // 3 leaves 1 and carries 3; 3 and 3 are 0, round
        s.form(TWO, "word 0 3 > 0 3 < 0;", "word 0 1;");
        s.form(TWO, "word 0 > 0 1 < 0;", "word 0 0 > 0 1 < 0 0;");
        s.form(TWO, "word 1 1 < 0 2 > 0 4;", "word 1 2;");
        // a PINCH with 2 gives 1 and 3 and 2, round 0: that is a PINCH with the STEP ahead
        s.form(TWO, "word 0 > 0 1 < 0 2 > 0 2 < 0;", "word 0 0;");
        // the same EDGE the same way is not its OPPOSITE; another EDGE is not either
        s.form("vertex 4;edge 0 2 0 2;", "word 0 > 0 > 0;", "word 0 0 > 0 0 > 0 0;");
        s.form("vertex 4;edge 0 2 0 2;edge 0 2 0 2;", "word 0 > 0 < 1;", "word 0 0 > 0 0 < 1 0;");
        s.form("vertex 4;edge 0 2 0 2;", "word 0 < 0 2 > 0;", "word 0 2;");

        s.says("Else, with p the INDEX from which the STEP leads, q that to which: what is left of the number at hand by p,"
                + " and the STEP, come into the row; the number at hand is q times how often p went into it.");
        s.form(TWO, "word 0 3 > 0;", "word 0 1 > 0 3;");
        s.form(TWO, "word 1 5 < 0;", "word 1 2 < 0 2;");
        s.form("vertex 2;vertex 4;edge 0 1 1 2;", "word 0 1 > 0;", "word 0 0 > 0 2;");
        s.form("vertex 2;vertex 4;edge 0 2 1 4;", "word 0 1 > 0;", "word 0 1 > 0 0;");
        s.form("vertex 12;vertex 60;edge 0 1 1 5;", "word 0 11 > 0;", "word 0 0 > 0 55;");

        s.says("The WORD's next number is added. At the end the number at hand comes last.");
        s.form(TWO, "word 0 3 > 0 5;", "word 0 1 > 0 2;");
        s.form(TWO, "word 0 3 > 0 3;", "word 0 1 > 0 0;");

        s.says("Two WORDS are ALIKE, if they begin at one VERTEX, and their FORMS are the same.");
        GluedWords x = Check.made("vertex 4;vertex 4;word 0 1;word 1 1;word 0 1;word 0 2;");
        s.due("alike(0, 1): not at one VERTEX", x.alike(0, 1), 0);
        s.due("alike(0, 2)", x.alike(0, 2), 1);
        s.due("alike(0, 3)", x.alike(0, 3), 0);
        GluedWords y = Check.made("vertex 4;edge 0 4 0 4;word 0 > 0 > 0;word 0 < 0 > 0 1;word 0 < 0 1 > 0;word 0 > 0 1 > 0;word 0 > 0 1 < 0;"
                + "word 0 > 0 > 0 1;word 0 1 > 0 > 0;word 0 > 0 1;");
        for (int w = 0; w < 8; w++) {
            s.due("alikes(" + w + "): no two of them", y.alikes(w), 1 << w);
        }
    }

    private void products() {
        s.says("PRODUCT of two WORDS, the second beginning where the first ends: their FORM, one behind the other"
                + " (the last number of the first, the first of the second added).");
        GluedWords x = Check.made(TWO + "word 0 3 > 0 5;word 1 5 < 0 3;word 0 2;");
        x.times(0, 1);
        // 3 leaves 1 and carries 3; 3 and 5 and 5 are 1; 1 is left and nothing carried
        s.line(x, 3, "word 0 1 > 0 1 < 0 3;");
        x.times(2, 2);
        s.line(x, 4, "word 0 0;");
        s.none("times(0, 0)", x, x.times(0, 0), 4);

        s.says("The TURNED one: STEPS OPPOSITE, all the other way round, numbers their opposites: its FORM.");
        GluedWords y = Check.made(TWO + "word 0 3 > 0 5 < 0 1;word 0;word 1 3;");
        y.turned(0);
        // 3 > 1 < 1: 3 leaves 1 and carries 3; 3 and 1 are 4; 4 leaves 1 and carries 2; 2 and 1
        s.line(y, 3, "word 0 1 > 0 1 < 0 3;");
        y.turned(1);
        s.line(y, 4, "word 0 0;");
        y.turned(2);
        s.line(y, 5, "word 1 3;");
    }

    private void core(String line, String want) {
        GluedWords x = Check.made(TWO + line);
        x.core(0);
        s.line(x, 1, want);
    }

    private void cores() {
        s.says("CORE of a LOOP: its FORM; as long as it has STEPS, the last one is the OPPOSITE of the first one, and the last"
                + " number and the first together are k times the INDEX from which the first leads:");
        core("word 0 3;", "word 0 3;");
        core("word 0 3 > 0 3 < 0;", "word 0 1;");
        core("word 0 1 > 0 1 < 0;", "word 0 1 > 0 1 < 0 0;");
        GluedWords x = Check.made("vertex 4;edge 0 2 0 2;word 0 > 0;word 0 > 0 > 0;");
        x.core(0);
        s.line(x, 2, "word 0 0 > 0 0;");
        x.core(1);
        s.line(x, 3, "word 0 0 > 0 0 > 0 0;");

        s.says("the LOOP that begins behind the first STEP, ends ahead of the last one, its last number more by k times the"
                + " INDEX to which the first leads; its FORM.");
        core("word 0 > 0 1 < 0;", "word 1 1;");
        core("word 0 1 > 0 2 < 0 3;", "word 1 2;");
        core("word 0 1 > 0 2 < 0 1;", "word 1 5;");
        // the ends go with 2 and 0, once 2: 1 and 3 behind; with 4 and 1, round 5, they stay
        core("word 0 > 0 1 < 0 1 > 0 1 < 0 2;", "word 1 1 < 0 1 > 0 4;");
        // three ends go: with 2 and 0, with 5 and 1, with 1 and 1
        core("word 0 > 0 1 < 0 1 > 0 1 < 0 1 > 0 5 < 0;", "word 1 4;");

        s.says("LENGTH: the STEPS of the CORE.");
        GluedWords y = Check.made(TWO + "word 0 1 > 0 2 < 0 3;word 0 > 0 1 < 0 1 > 0 1 < 0 2;word 0;");
        s.good("length(0)", y, y.length(0), 0);
        s.good("length(1)", y, y.length(1), 2);
        s.good("length(2)", y, y.length(2), 0);

        s.says("Its ORDER: without STEPS that of its number: n by the greatest that divides both that and n; else 0: it has none.");
        GluedWords z = Check.made("vertex 60;vertex 1;edge 0 60 0 60;word 0;word 0 1;word 0 59;word 0 24;word 0 30;word 1;"
                + "word 0 > 0;word 0 1 > 0 24 < 0 59;");
        int[] orders = {1, 60, 60, 5, 2, 1, 0, 5};
        for (int w = 0; w < orders.length; w++) {
            s.good("orderOf(" + w + ")", z, z.orderOf(w), orders[w]);
        }
    }

    private void kin() {
        s.says("KIN are two LOOPS of one and the same LENGTH:");
        GluedWords x = Check.made(TWO + "word 0 1 > 0 1 < 0;word 0 1 > 0 1 < 0 1 > 0 1 < 0;word 0;word 1;word 0 > 0 4 < 0;word 1 4;");
        s.good("LENGTH 2 and 4", x, x.kin(0, 1), 0);
        s.good("LENGTH 2 and 0", x, x.kin(0, 2), 0);
        s.good("LENGTH 0 and 2", x, x.kin(2, 0), 0);
        // the first has two STEPS, but its CORE has none
        s.good("LENGTH 0 and 0", x, x.kin(4, 5), 1);

        s.says("without STEPS, if one comes from one CORE to the other by going along EDGES: from a number s at u that is k"
                + " times p to k times q at v, or BACKWARDS;");
        s.good("0 and 0", x, x.kin(2, 3), 1);
        s.good("0 and 0, BACKWARDS", x, x.kin(3, 2), 1);
        GluedWords y = Check.made("vertex 12;vertex 18;vertex 6;edge 0 2 1 3;edge 2 1 1 3;word 0 10;word 1 15;word 2 5;word 1 12;"
                + "word 0 5;vertex 12;word 3 10;");
        s.good("5 times 2 and 5 times 3", y, y.kin(0, 1), 1);
        s.good("5 times 3 and 5 times 1, BACKWARDS", y, y.kin(1, 2), 1);
        s.good("two EDGES", y, y.kin(0, 2), 1);
        s.good("5 times 2 and 4 times 3", y, y.kin(0, 3), 0);
        s.good("5 is no times 2", y, y.kin(4, 1), 0);
        s.good("5 is alike itself", y, y.kin(4, 4), 1);
        s.good("no EDGE goes there", y, y.kin(0, 5), 0);

        s.says("with STEPS, if, the CORE of the first begun behind one of its STEPS (or as it is), a number of that VERTEX taken"
                + " from ahead and added behind, it is ALIKE the CORE of the second.");
        GluedWords z = Check.made("vertex 6;edge 0 6 0 6;word 0 1 > 0 2 > 0 3;word 0 1 > 0 2 > 0 3;word 0 > 0 2 > 0 4;"
                + "word 0 2 > 0 4 > 0;word 0 5 > 0 4 > 0 3;word 0 1 > 0 3 > 0 3;word 0 5 < 0 4 < 0 3;");
        s.good("as it is", z, z.kin(0, 1), 1);
        s.good("as it is, 1 taken", z, z.kin(0, 2), 1);
        s.good("behind a STEP", z, z.kin(0, 3), 1);
        s.good("behind a STEP, 3 taken, round", z, z.kin(0, 4), 1);
        s.good("another number", z, z.kin(0, 5), 0);
        s.good("the other way", z, z.kin(0, 6), 0);

        s.says("NET of a WORD by an EDGE: its STEPS forwards along it less those BACKWARDS.");
        GluedWords w = Check.made("vertex 1;edge 0 1 0 1;edge 0 1 0 1;word 0" + ">0".repeat(24) + ";word 0" + "<0".repeat(24)
                + ";word 0>0<0<0>1;word 0;");
        int[][] nets = {{24, 0}, {-24, 0}, {-1, 1}, {0, 0}};
        for (int i = 0; i < nets.length; i++) {
            s.good("net(" + i + ", 0)", w, w.net(i, 0), nets[i][0]);
            s.good("net(" + i + ", 1)", w, w.net(i, 1), nets[i][1]);
        }
    }

    private void centre(String graph, int vertex, int... all) {
        GluedWords x = Check.made(graph);
        int next = 0;
        for (int i = 0; i < x.order(vertex); i++) {
            boolean isDue = next < all.length && all[next] == i;
            s.good("central(" + vertex + ", " + i + ") of " + graph, x, x.central(vertex, i), isDue ? 1 : 0);
            next += isDue ? 1 : 0;
        }
        s.good("centre(" + vertex + ") of " + graph, x, x.centre(vertex), all.length);
    }

    private void central() {
        s.says("A number s of a VERTEX is CENTRAL, if there is a number for each VERTEX that hangs together with it, s for that"
                + " itself, so that for each EDGE among these that at u is k times p, and that at v is k times q for the same k"
                + " (0 to COMMON less 1).");
        centre("vertex 5;vertex 4;edge 1 4 1 4;", 0, 0, 1, 2, 3, 4);
        centre("vertex 5;vertex 4;edge 1 4 1 4;", 1, 0);
        centre(TWO, 0, 0, 2);
        centre(TWO, 1, 0, 3);
        centre("vertex 4;edge 0 1 0 1;", 0, 0, 1, 2, 3);
        centre("vertex 12;edge 0 2 0 2;edge 0 3 0 3;", 0, 0, 6);
        // k is 0 or 1 at the far EDGE, so it is 0 or 3 of 6 at the near one
        centre("vertex 12;vertex 18;vertex 6;edge 0 2 1 3;edge 1 9 2 3;", 0, 0, 6);
        centre("vertex 12;vertex 18;vertex 6;edge 0 2 1 3;edge 1 9 2 3;", 2, 0, 3);

        s.says("ROOT of a LOOP with LENGTH above 0: the greatest m so that its CORE is the m-th power of a LOOP.");
        GluedWords x = Check.made("vertex 4;edge 0 1 0 1;word 0" + ">0".repeat(24) + ";word 0>0;word 0>0>0 1;word 0>0>0 2;"
                + "word 0>0>0>0 1;word 0 3<0 1;");
        int[] roots = {24, 1, 1, 2, 3, 1};
        for (int i = 0; i < roots.length; i++) {
            s.good("root(" + i + ")", x, x.root(i), roots[i]);
        }
        GluedWords y = Check.made(TWO + "word 0 > 0 1 < 0 1 > 0 1 < 0 1 > 0 1 < 0 1;word 0 > 0 1 < 0 1 > 0 1 < 0 1 > 0 2 < 0 1;"
                + "word 0 > 0 1 < 0 1 > 0 1 < 0 1 > 0 4 < 0;");
        s.good("three times", y, y.root(0), 3);
        s.good("two times and another", y, y.root(1), 1);
        GluedWords z = Check.made("vertex 6;edge 0 6 0 6;word 0 1>0 2>0 3>0 5>0 2>0 3>0 4;word 0 1>0 2>0 3>0 5>0 3>0 2>0 4;"
                + "word 0 1>0 2>0 3>0 5>0 2>0 3>0 5>0 2>0 3>0 4;");
        s.good("two times three STEPS", z, z.root(0), 2);
        s.good("two numbers of them changed about", z, z.root(1), 1);
        s.good("three times three STEPS", z, z.root(2), 3);
        y.power(2, 2);
        s.due("steps(3)", y.steps(3), 10);
        s.due("length(3)", y.length(3), 8);
        s.good("two times, and not as its CORE", y, y.root(3), 2);
    }

    private void many() {
        s.promise(6);
        s.says("VERTICES (what 0), EDGES (1), WORDS (2), ACTS that can be undone (3), MARKS (4), CIRCLES (5),"
                + " parts that hang together (6)");
        GluedWords x = Check.made("vertex 4;".repeat(6) + "edge 1 4 2 4;edge 2 4 1 4;edge 3 4 3 4;word 0;word 1;");
        x.mark();
        x.take(0, 0);
        int[] want = {6, 3, 3, 2, 1, 2, 5};
        for (int what = 0; what < want.length; what++) {
            s.good("many(" + what + ")", x, x.many(what), want[what]);
        }
        GluedWords joined = Check.made("vertex 1;vertex 1;vertex 1;edge 2 1 1 1;edge 1 1 0 1;");
        s.good("parts of a row", joined, joined.many(6), 1);
        GluedWords pair = Check.made("vertex 1;vertex 1;edge 1 1 0 1;");
        s.good("parts of two", pair, pair.many(6), 1);
        GluedWords row = Check.made("vertex 1;".repeat(6) + "edge 4 1 5 1;edge 3 1 4 1;edge 2 1 3 1;edge 1 1 2 1;edge 0 1 1 1;");
        s.good("parts of the longest row", row, row.many(6), 1);
        GluedWords turnedRow = Check.made("vertex 1;".repeat(6) + "edge 1 1 0 1;edge 2 1 1 1;edge 3 1 2 1;edge 4 1 3 1;edge 5 1 4 1;");
        s.good("parts of the longest row, the other way", turnedRow, turnedRow.many(6), 1);
        GluedWords apart = Check.made("vertex 1;".repeat(6));
        s.good("parts without EDGES", apart, apart.many(6), 6);
        s.good("CIRCLES without EDGES", apart, apart.many(5), 0);
        GluedWords round = Check.made("vertex 1;" + "edge 0 1 0 1;".repeat(6));
        s.good("parts of six rounds", round, round.many(6), 1);
        s.good("CIRCLES of six rounds", round, round.many(5), 6);

        s.says("(1).");
        for (int what : new int[] {-1, 7, LEAST, GREATEST}) {
            s.refused(Makers::busy, "many(" + what + ")", y -> y.many(what), 1);
        }
    }

    private void order() {
        s.promise(7);
        s.says("ORDER of a VERTEX");
        GluedWords x = Check.made("vertex 1;vertex 60;");
        s.good("order(0)", x, x.order(0), 1);
        s.good("order(1)", x, x.order(1), 60);

        s.says("(2).");
        for (int v : new int[] {-1, 2, 6, LEAST, GREATEST}) {
            s.refused(Makers::busy, "order(" + v + ")", y -> y.order(v), 2);
        }
        s.refused(Makers::bare, "order(0)", y -> y.order(0), 2);
    }

    private void edge() {
        s.promise(8);
        s.says("Of an EDGE, what 0: u, 1: p, 2: v, 3: q, 4: COMMON");
        GluedWords x = Check.made("vertex 60;vertex 40;edge 1 2 0 3;");
        int[] want = {1, 2, 0, 3, 20};
        for (int what = 0; what < 5; what++) {
            s.good("edge(0, " + what + ")", x, x.edge(0, what), want[what]);
        }

        s.says("(1; 2).");
        s.refused(Makers::busy, "edge(0, -1)", y -> y.edge(0, -1), 1);
        s.refused(Makers::busy, "edge(0, 5)", y -> y.edge(0, 5), 1);
        s.refused(Makers::busy, "edge(1, 5)", y -> y.edge(1, 5), 1);
        s.refused(Makers::busy, "edge(1, 0)", y -> y.edge(1, 0), 2);
        s.refused(Makers::busy, "edge(-1, 4)", y -> y.edge(-1, 4), 2);
        s.refused(Makers::bare, "edge(0, 0)", y -> y.edge(0, 0), 2);
    }

    private void word() {
        s.promise(9);
        s.says("Of a WORD, what 0: where it begins, 1: where it ends, 2: how many STEPS, 3: 1 if it is as its FORM, else 0,"
                + " 4: how many PINCHES its FORM takes");
        GluedWords x = Check.made(TWO + "word 1 5;word 0 1 > 0 5;word 0 2 > 0;word 0 > 0 3 < 0;word 1 < 0 > 0 < 0 > 0;"
                + "word 0 > 0 1 < 0 2 > 0 2 < 0;");
        int[][] want = {{1, 1, 0, 1, 0}, {0, 1, 1, 1, 0}, {0, 1, 1, 0, 0}, {0, 0, 2, 0, 1}, {1, 1, 4, 0, 2}, {0, 0, 4, 0, 2}};
        for (int w = 0; w < want.length; w++) {
            for (int what = 0; what < 5; what++) {
                s.good("word(" + w + ", " + what + ")", x, x.word(w, what), want[w][what]);
            }
        }
        GluedWords most = Check.made("vertex 1;edge 0 1 0 1;word 0" + "<0>0".repeat(12) + ";");
        s.good("twelve PINCHES", most, most.word(0, 4), 12);

        s.says("(1; 2).");
        s.refused(Makers::busy, "word(0, -1)", y -> y.word(0, -1), 1);
        s.refused(Makers::busy, "word(0, 5)", y -> y.word(0, 5), 1);
        s.refused(Makers::busy, "word(6, 5)", y -> y.word(6, 5), 1);
        s.refused(Makers::busy, "word(6, 0)", y -> y.word(6, 0), 2);
        s.refused(Makers::busy, "word(-1, 4)", y -> y.word(-1, 4), 2);
        s.refused(Makers::full, "word(10, 2)", y -> y.word(10, 2), 2);
    }

    private void number() {
        s.promise(10);
        s.says("Number i of a WORD, from 0 on");
        GluedWords x = Check.made(TWO + "word 0 3 > 0 5;word 1 4;");
        s.good("number(0, 0)", x, x.number(0, 0), 3);
        s.good("number(0, 1), the last", x, x.number(0, 1), 5);
        s.good("number(1, 0), the only one", x, x.number(1, 0), 4);
        GluedWords most = Check.made("vertex 3;edge 0 3 0 3;word 0" + ">0".repeat(24) + " 2;");
        s.good("number(0, 24)", most, most.number(0, 24), 2);
        s.none("number(0, 25)", most, most.number(0, 25), 5);

        s.says("(1: below 0; 2; 5).");
        s.refused(Makers::busy, "number(0, -1)", y -> y.number(0, -1), 1);
        s.refused(Makers::busy, "number(6, least)", y -> y.number(6, LEAST), 1);
        s.refused(Makers::busy, "number(6, 0)", y -> y.number(6, 0), 2);
        s.refused(Makers::busy, "number(-1, 99)", y -> y.number(-1, 99), 2);
        s.refused(Makers::busy, "number(0, 3)", y -> y.number(0, 3), 5);
        s.refused(Makers::busy, "number(2, 1), no STEPS", y -> y.number(2, 1), 5);
        s.refused(Makers::busy, "number(0, greatest)", y -> y.number(0, GREATEST), 5);
    }

    private void step() {
        s.promise(11);
        s.says("STEP i of a WORD, from 0 on: twice the EDGE, and 1 more if BACKWARDS");
        GluedWords x = Check.made("vertex 1;" + "edge 0 1 0 1;".repeat(6) + "word 0 > 0 < 0 > 5 < 5;");
        int[] want = {0, 1, 10, 11};
        for (int i = 0; i < want.length; i++) {
            s.good("step(0, " + i + ")", x, x.step(0, i), want[i]);
        }
        GluedWords most = Makers.longest();
        s.good("step(0, 23)", most, most.step(0, 23), 0);
        s.none("step(0, 24)", most, most.step(0, 24), 5);

        s.says("(1: below 0; 2; 5).");
        s.refused(Makers::busy, "step(0, -1)", y -> y.step(0, -1), 1);
        s.refused(Makers::busy, "step(6, least)", y -> y.step(6, LEAST), 1);
        s.refused(Makers::busy, "step(6, 0)", y -> y.step(6, 0), 2);
        s.refused(Makers::busy, "step(-1, 99)", y -> y.step(-1, 99), 2);
        s.refused(Makers::busy, "step(0, 2)", y -> y.step(0, 2), 5);
        s.refused(Makers::busy, "step(2, 0), no STEPS", y -> y.step(2, 0), 5);
        s.refused(Makers::busy, "step(0, greatest)", y -> y.step(0, GREATEST), 5);
    }
}
