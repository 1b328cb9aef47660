import java.nio.charset.StandardCharsets;

/** Part 1 of the terms, and promises 1 to 5: the graph, words, texts and their faults. */
final class TextBounds {
    private static final String TWO = Makers.TWO;
    private static final String ROUND = "vertex 1;edge 0 1 0 1;";
    private final Sentences s;

    TextBounds(Sentences s) {
        this.s = s;
    }

    void all() {
        use();
        s.section("part 1");
        vertices();
        edges();
        words();
        tokens();
        lines();
        firstFault();
        faultsOfTokens();
        faultsOfNumbers();
        faultsOfSix();
        lineOfFault();
        newObject();
        status();
        feed();
        load();
        fault();
    }

    private void use() {
        s.section("use");
        s.says("An object is used for at most 512 calls after it has been made; what later calls answer is free.");
        GluedWords x = new GluedWords();
        Check.load(x, "vertex 7;");
        for (int i = 0; i < 254; i++) {
            x.take(0, i);
            x.drop(0);
        }
        s.due("the 511th call", x.take(0, 13), 0);
        s.due("the 512th call", x.number(0, 0), 6);
    }

    private void vertices() {
        s.says("VERTICES, at most 6, numbered from 0 on,");
        GluedWords six = s.sound("vertex 11;vertex 12;vertex 13;vertex 14;vertex 15;vertex 16;", 0);
        s.due("many(0)", six.many(0), 6);
        for (int v = 0; v < 6; v++) {
            s.good("order(" + v + ")", six, six.order(v), 11 + v);
        }
        s.none("order(6)", six, six.order(6), 2);
        s.fault("vertex 1;".repeat(7), 6, 54, 6);

        s.says("each of an ORDER n (1 to 60):");
        s.due("the least", s.sound("vertex 1;", 0).order(0), 1);
        s.due("the greatest", s.sound("vertex 60;", 0).order(0), 60);
        s.fault("vertex 0;", 4, 7, 0);
        s.fault("vertex 61;", 4, 7, 0);

        s.says("its numbers are 0 to n - 1, added round (what is left by n, never below 0).");
        GluedWords x = Check.made("vertex 60;word 0 59;word 0 1;word 0 58;word 0 0;vertex 1;word 1 0;");
        x.times(0, 1);
        s.line(x, 5, "word 0 0;");
        x.times(2, 1);
        s.line(x, 6, "word 0 59;");
        x.turned(1);
        s.line(x, 7, "word 0 59;");
        x.turned(3);
        s.line(x, 8, "word 0 0;");
        x.times(4, 4);
        s.line(x, 9, "word 1 0;");
    }

    private void edges() {
        s.says("EDGES, at most 6, numbered from 0 on:");
        String six = "vertex 60;" + "edge 0 1 0 1;edge 0 2 0 2;edge 0 3 0 3;edge 0 4 0 4;edge 0 5 0 5;edge 0 6 0 6;";
        GluedWords x = s.sound(six, 0);
        s.due("many(1)", x.many(1), 6);
        for (int e = 0; e < 6; e++) {
            s.good("edge(" + e + ", 1)", x, x.edge(e, 1), e + 1);
        }
        s.none("edge(6, 1)", x, x.edge(6, 1), 2);
        s.fault(six + "edge 0 1 0 1;", 6, 88, 7);

        s.says("from a VERTEX u with an INDEX p to a VERTEX v (may be u) with an INDEX q;");
        GluedWords y = s.sound("vertex 4;vertex 6;edge 0 2 1 3;edge 1 2 1 2;", 0);
        int[][] want = {{0, 2, 1, 3}, {1, 2, 1, 2}};
        for (int e = 0; e < 2; e++) {
            for (int what = 0; what < 4; what++) {
                s.good("edge(" + e + ", " + what + ")", y, y.edge(e, what), want[e][what]);
            }
        }

        s.says("p divides the ORDER of u, q that of v, both quotients are alike (COMMON of the EDGE):");
        GluedWords z = s.sound("vertex 12;vertex 60;edge 0 1 1 5;edge 0 12 1 60;edge 1 60 0 12;", 0);
        s.due("COMMON of 12 by 1", z.edge(0, 4), 12);
        s.due("COMMON of 12 by 12", z.edge(1, 4), 1);
        s.fault("vertex 12;vertex 60;edge 0 5 1 5;", 4, 27, 2);
        s.fault("vertex 12;vertex 60;edge 0 1 1 7;", 4, 31, 2);
        s.fault("vertex 12;vertex 60;edge 0 1 1 6;", 4, 31, 2);

        s.says("p times k at u is q times k at v.");
        GluedWords same = Check.made("vertex 12;vertex 18;edge 0 2 1 3;word 0 10 > 0;word 0 > 0 15;word 0 > 0 14;");
        s.due("5 times 2 is 5 times 3", same.alike(0, 1), 1);
        s.due("5 times 2 is not 14", same.alike(0, 2), 0);

        s.says("A STEP: an EDGE forwards or BACKWARDS (from v to u, p and q changed about); its OPPOSITE.");
        s.form(TWO, "word 0 3 > 0;", "word 0 1 > 0 3;");
        s.form(TWO, "word 1 5 < 0;", "word 1 2 < 0 2;");
        s.form(TWO, "word 0 > 0 < 0;", "word 0 0;");
        int[] p = {2, 4, 6, 10, 12, 20};
        String six60 = "vertex 60;vertex 30;edge 0 2 1 1;edge 0 4 1 2;edge 0 6 1 3;edge 0 10 1 5;edge 0 12 1 6;edge 0 20 1 10;";
        for (int e = 0; e < 6; e++) {
            int q = p[e] / 2;
            s.form(six60, "word 0 59 > " + e + ";", "word 0 " + 59 % p[e] + " > " + e + " " + 59 / p[e] * q + ";");
            s.form(six60, "word 1 29 < " + e + ";", "word 1 " + 29 % q + " < " + e + " " + 29 / q * p[e] + ";");
            s.form(six60, "word 0 1 > " + e + " " + q + " < " + e + ";", "word 0 " + (1 + p[e]) + ";");
        }
    }

    private void words() {
        s.says("A WORD begins at a VERTEX: a number of it, a STEP from there, a number of the VERTEX to which that leads,"
                + " and so on, a number last;");
        GluedWords x = Check.made(TWO + "word 0 3 > 0 5 < 0 2;");
        int[] numbers = {3, 5, 2};
        for (int i = 0; i < 3; i++) {
            s.good("number(0, " + i + ")", x, x.number(0, i), numbers[i]);
        }
        s.good("step(0, 0)", x, x.step(0, 0), 0);
        s.good("step(0, 1)", x, x.step(0, 1), 1);
        s.fault(TWO + "word 0 < 0;", 5, 40, 3);

        s.says("at most 24 STEPS.");
        s.due("24 steps", s.sound(ROUND + "word 0" + ">0".repeat(24) + ";", 1).word(0, 2), 24);
        s.fault(ROUND + "word 0" + ">0".repeat(25) + ";", 6, 76, 2);
        GluedWords y = Makers.longest();
        s.none("times() to 25 steps", y, y.times(0, 1), 6);

        s.says("A LOOP: it ends where it begins.");
        GluedWords z = Check.made(TWO + "word 1 5;word 1 1 < 0 1 > 0;word 1 < 0;word 1 < 0 > 0 < 0;");
        s.good("length(0)", z, z.length(0), 0);
        s.good("length(1)", z, z.length(1), 2);
        s.none("length(2)", z, z.length(2), 4);
        s.none("length(3)", z, z.length(3), 4);

        s.says("WORDS that are kept: at most 10, numbered from 0 on as they came"
                + " (one that goes: those behind it are numbered less).");
        GluedWords ten = Check.made("vertex 60;" + "word 0 40;word 0 41;word 0 42;word 0 43;word 0 44;word 0 45;word 0 46;");
        for (int i = 7; i < 10; i++) {
            s.good("take() of number " + i, ten, ten.take(0, 40 + i), i);
        }
        s.none("an eleventh", ten, ten.take(0, 0), 3);
        s.due("number(9, 0)", ten.number(9, 0), 49);
        s.good("drop(4)", ten, ten.drop(4), 9);
        for (int i = 0; i < 9; i++) {
            s.due("number(" + i + ", 0)", ten.number(i, 0), i < 4 ? 40 + i : 41 + i);
        }
        s.none("number(9, 0)", ten, ten.number(9, 0), 2);
        s.good("take() again", ten, ten.take(0, 7), 9);
        tenOfMostSteps();
    }

    /** As much as can be kept: each WORD stays what it is beside the others. */
    private void tenOfMostSteps() {
        StringBuilder text = new StringBuilder("vertex 60;vertex 60;edge 0 60 1 60;");
        for (int w = 0; w < 10; w++) {
            int begin = w % 2;
            text.append("word ").append(begin).append(' ').append(40 + w);
            text.append((begin == 0 ? ">0<0" : "<0>0").repeat(12)).append(' ').append(50 + w).append(';');
        }
        GluedWords x = s.sound(text.toString(), 10);
        x.form(3);
        x.undo();
        for (int w = 0; w < 10; w++) {
            s.due("word(" + w + ", 0)", x.word(w, 0), w % 2);
            s.due("word(" + w + ", 2)", x.word(w, 2), 24);
            s.due("number(" + w + ", 0)", x.number(w, 0), 40 + w);
            s.due("step(" + w + ", 0)", x.step(w, 0), w % 2);
            s.due("step(" + w + ", 23)", x.step(w, 23), 1 - w % 2);
            s.due("number(" + w + ", 24)", x.number(w, 24), 50 + w);
        }
    }

    private void tokens() {
        s.says("A TEXT of at most 700 bytes.");
        GluedWords x = new GluedWords();
        String text = "vertex 8;" + " ".repeat(684) + "word 0;";
        s.good("load of 700 bytes", x, Check.load(x, text), 1);
        s.due("order(0)", x.order(0), 8);
        s.none("load of 701 bytes", x, Check.load(x, text + " "), 1);

        s.says("TOKENS, as long as they go, between them blanks (10, 32):");
        s.sound("vertex4;edge0 4 0 4;word0 1>0 1<0;", 1);
        s.sound("\n vertex\n\n4 ;  word \n 0 1 ;\n", 1);
        s.due("12 is no 1 and 2", s.sound("vertex 60;word 0 12;", 1).number(0, 0), 12);
        s.fault("vertex4;word0 1 2;", 2, 16, 1);
        s.fault("vertexvertex 4;", 2, 0, 0);
        for (String name : new String[] {"verte", "vertexx", "wertex", "vartex", "vertey", "edg", "edges", "adge", "edga", "wor", "words",
            "sord", "worm", "step", "x"}) {
            s.fault("vertex 4;" + name + " 0;", 2, 9, 1);
        }
        for (char sign : new char[] {0, 9, 11, 12, 13, 31, 33, 127, 160}) {
            s.fault("vertex" + sign + "4;", 1, 6, 0);
        }

        s.says("WORDS of small letters, NUMBERS (1 to 3 digits), the SIGNS > < ;");
        s.fault("abcdefghijklmnopqrstuvwxyz", 2, 0, 0);
        s.fault("a", 2, 0, 0);
        s.fault("z", 2, 0, 0);
        s.fault("0", 2, 0, 0);
        s.fault("999", 2, 0, 0);
        s.fault("<", 2, 0, 0);
        s.fault(">", 2, 0, 0);
        s.fault(";", 2, 0, 0);
        for (char sign : "`{@[AZ/:=?-.,_'\"".toCharArray()) {
            s.fault("" + sign, 1, 0, 0);
        }
        for (int sign = 128; sign < 256; sign++) {
            s.fault("" + (char) sign, 1, 0, 0);
        }
    }

    private void lines() {
        s.says("TEXT: {LINE}.");
        GluedWords x = s.sound("", 0);
        s.due("no VERTICES at all", x.many(0), 0);
        s.sound(" \n", 0);

        s.says("LINE: vertex NUMBER ; or edge NUMBER NUMBER NUMBER NUMBER ; or word NUMBER [NUMBER] {STEP [NUMBER]} ;");
        s.fault("vertex;", 2, 6, 0);
        s.fault("vertex 4 4;", 2, 9, 0);
        s.fault("vertex 4", 2, 8, 0);
        s.fault("vertex 4;edge;", 2, 13, 1);
        s.fault("vertex 4;edge 0;", 2, 15, 1);
        s.fault("vertex 4;edge 0 4;", 2, 17, 1);
        s.fault("vertex 4;edge 0 4 0;", 2, 19, 1);
        s.fault("vertex 4;edge 0 4 0 4 4;", 2, 22, 1);
        s.fault("vertex 4;word;", 2, 13, 1);
        s.fault("vertex 4;word 0 1 1;", 2, 18, 1);
        s.fault("vertex 4;word > 0;", 2, 14, 1);
        s.fault("vertex 4;edge 0 4 0 4;word 0 > 0 1 1;", 2, 35, 2);
        s.sound("vertex 4;word 0;edge 0 4 0 4;word 0 > 0;vertex 2;word 1;", 3);

        s.says("STEP: > NUMBER, or < NUMBER (BACKWARDS).");
        GluedWords y = s.sound(TWO + "word 0 > 0 < 0;", 1);
        s.due("step(0, 0)", y.step(0, 0), 0);
        s.due("step(0, 1)", y.step(0, 1), 1);
        s.fault(TWO + "word 0 >;", 2, 39, 3);
        s.fault(TWO + "word 0 > <", 2, 40, 3);

        s.says("({ } any number of times, [ ] once or not: else 0.)");
        GluedWords z = s.sound(TWO + "word 0;word 0 > 0;word 0 3 > 0 < 0 1;", 3);
        s.line(z, 0, "word 0 0;");
        s.line(z, 1, "word 0 0 > 0 0;");
        s.line(z, 2, "word 0 3 > 0 0 < 0 1;");

        s.says("vertex: its ORDER. edge: u, p, v, q. word: the VERTEX, a number (cut down round); STEP: the EDGE.");
        GluedWords w = s.sound("vertex 4;vertex 6;edge 1 6 0 4;edge 0 2 1 3;word 0 4 > 1 6 > 0 999;word 1 005;", 2);
        s.due("order(1)", w.order(1), 6);
        s.due("edge(1, 3)", w.edge(1, 3), 3);
        s.line(w, 0, "word 0 0 > 1 0 > 0 3;");
        s.line(w, 1, "word 1 5;");
    }

    private void firstFault() {
        s.says("FAULTS, the first along the text (of one TOKEN the least kind):");
        s.fault("vertex 61;Z", 4, 7, 0);
        s.fault("vertex 4;Z vertex 0;", 1, 9, 1);
        s.fault("vertex 4;edge 0 3 9 1;", 4, 16, 1);
        // 1 ahead of 2: no NUMBER can stand there, and it is none
        s.fault("vertex 4 1234;", 1, 9, 0);
        // 2 ahead of 6: a seventh VERTEX, an eleventh WORD, the SIGN of a 25th STEP, where none can stand
        s.fault("vertex 1;".repeat(6) + "word 0 vertex 1;", 2, 61, 6);
        s.fault("vertex 1;" + "word 0;".repeat(10) + "vertex word 0;", 2, 86, 11);
        s.fault(ROUND + "word 0" + ">0".repeat(23) + ">>0;", 2, 75, 2);
        // 3 ahead of 5: an EDGE that is not there begins nowhere
        s.fault(TWO + "word 1 > 1;", 3, 40, 3);
    }

    private void faultsOfTokens() {
        s.says("1 no TOKEN begins so (a NUMBER of 4 digits and more: at its first).");
        s.fault("vertex 1000;", 1, 7, 0);
        s.fault("vertex 0001;", 1, 7, 0);
        s.fault("vertex 4;word 0 12345678901;", 1, 16, 1);
        s.fault("vertex 4;word 0 > 0000;", 1, 18, 1);
        s.fault("vertex 4;%", 1, 9, 1);

        s.says("2 it can't stand there (the end: the text's length).");
        s.fault("vertex", 2, 6, 0);
        s.fault("vertex 4  \n", 2, 11, 0);
        s.fault("vertex 4;word 0 >", 2, 17, 1);
        s.fault("vertex 4;word", 2, 13, 1);
        s.fault("vertex 4;edge 0 4 0 4", 2, 21, 1);
        s.fault("word word;", 2, 5, 0);
        GluedWords x = new GluedWords();
        Check.feed(x, "vertex 4;vertex 4;vertex 4;".getBytes(StandardCharsets.ISO_8859_1));
        s.none("load(17), the tape has more", x, x.load(17), 9);
        s.due("the place", x.fault(1), 17);
        s.due("the line", x.fault(2), 1);
    }

    private void faultsOfNumbers() {
        s.says("3 no such VERTEX, EDGE, as yet.");
        s.fault("edge 0 1 0 1;vertex 1;", 3, 5, 0);
        s.fault("vertex 1;edge 0 1 1 1;vertex 1;", 3, 18, 1);
        s.fault("vertex 1;word 1;vertex 1;", 3, 14, 1);
        s.fault("vertex 1;word 999;", 3, 14, 1);
        s.fault("vertex 1;word 0 > 0;edge 0 1 0 1;", 3, 18, 1);
        s.fault(ROUND + "word 0 < 1;", 3, 31, 2);
        s.fault(ROUND + "word 0 > 999;", 3, 31, 2);

        s.says("4 an ORDER, an INDEX that can't be (quotients that are not alike: at q).");
        s.fault("vertex 999;", 4, 7, 0);
        s.fault("vertex 4;edge 0 0 0 4;", 4, 16, 1);
        s.fault("vertex 4;edge 0 3 0 4;", 4, 16, 1);
        s.fault("vertex 4;edge 0 8 0 4;", 4, 16, 1);
        s.fault("vertex 4;edge 0 4 0 0;", 4, 20, 1);
        s.fault("vertex 4;edge 0 4 0 3;", 4, 20, 1);
        s.fault("vertex 4;edge 0 4 0 2;", 4, 20, 1);
        s.fault("vertex 4;vertex 6;edge 0 2 1 2;", 4, 29, 2);

        s.says("5 a STEP that does not begin where the WORD is (at the EDGE).");
        s.fault(TWO + "word 1 > 0;", 5, 40, 3);
        s.fault(TWO + "word 0 < 0;", 5, 40, 3);
        s.fault(TWO + "word 0 > 0 5 > 0;", 5, 46, 3);
        s.fault(TWO + "word 0 > 0 < 0 < 0;", 5, 48, 3);
        s.sound("vertex 4;edge 0 2 0 2;word 0 > 0 > 0 < 0 < 0 < 0;", 1);
    }

    private void faultsOfSix() {
        s.says("6 a seventh VERTEX, EDGE, an eleventh WORD (at that WORD), a 25th STEP (at its SIGN).");
        String six = "vertex 1;".repeat(6);
        s.sound(six + "edge 0 1 0 1;".repeat(6) + "word 0;".repeat(9) + "word 0" + "<0".repeat(24) + " 0;", 10);
        s.fault(six + " vertex zz", 6, 55, 6);
        s.fault("vertex 1;" + "edge 0 1 0 1;".repeat(6) + "\nedge 9", 6, 88, 7);
        s.fault("vertex 1;" + "word 0;".repeat(10) + "word", 6, 79, 11);
        s.fault(ROUND + "word 0" + ">0".repeat(24) + " < 9", 6, 77, 2);
        s.fault(ROUND + "word 0" + ">0".repeat(24) + " 0>", 6, 78, 2);
    }

    private void lineOfFault() {
        s.says("The LINE of a FAULT: how many LINES ended ahead of it.");
        s.fault("Z", 1, 0, 0);
        s.fault("vertex 4", 2, 8, 0);
        s.fault("vertex 4;\n\n\nvertex 4;\nvertex 0;", 4, 29, 2);
        s.fault("vertex 1;vertex 2;vertex 3;word 0;word 1 5;word 4;", 3, 48, 5);
    }

    private void newObject() {
        s.promise(1);
        s.says("No VERTICES, WORDS, MARKS; nothing can be undone; an empty tape; STATUS 0.");
        GluedWords x = new GluedWords();
        s.due("status()", x.status(), 0);
        for (int what = 0; what < 7; what++) {
            s.good("many(" + what + ")", x, x.many(what), 0);
        }
        s.none("undo()", x, x.undo(), 5);
        s.none("back()", x, x.back(), 5);
        s.none("load(1)", x, x.load(1), 1);
        s.good("load(0)", x, x.load(0), 0);
        s.due("feed()", x.feed(0, 0, 0, 0, 0), 20);
        s.none("out(0)", x, x.out(0), 5);
        s.none("word(0, 0)", x, x.word(0, 0), 2);
        s.none("order(0)", x, x.order(0), 2);
        s.none("edge(0, 0)", x, x.edge(0, 0), 2);
        s.good("chi(0)", x, x.chi(0), 0);
        s.good("chi(1)", x, x.chi(1), 1);
    }

    private void status() {
        s.promise(2);
        s.says("STATUS of the latest call that has one.");
        GluedWords x = new GluedWords();
        x.load(99);
        s.due("status() behind load(99)", x.status(), 1);
        s.due("status() twice", x.status(), 1);
        x.feed(0, 0, 0, 0, 0);
        s.due("status() behind feed()", x.status(), 1);
        x.fault(0);
        s.due("status() behind fault()", x.status(), 1);
        x.undo();
        s.due("status() behind undo()", x.status(), 5);
        x.many(0);
        s.due("status() behind many(0)", x.status(), 0);
    }

    private void feed() {
        s.promise(3);
        s.says("Twenty bytes come behind those on the tape, the highest of each int first: how many it has;");
        GluedWords x = new GluedWords();
        s.due("feed()", x.feed(0x76657274, 0x65782032, 0x373b776f, 0x72642030, 0x2032383b), 20);
        s.due("feed() behind it", x.feed(0x776f7264, 0x20302032, 0x363b2020, 0x20202020, 0x20202020), 40);
        s.good("load(40)", x, x.load(40), 2);
        s.due("order(0)", x.order(0), 27);
        s.due("number(0, 0)", x.number(0, 0), 1);
        s.due("number(1, 0)", x.number(1, 0), 26);
        GluedWords y = new GluedWords();
        y.feed(0x20202020, 0x0a2020ff, Integer.MIN_VALUE, 0, 0);
        s.none("load(20)", y, y.load(20), 9);
        s.due("a byte of 255 is no TOKEN", y.fault(0), 1);
        s.due("it is the eighth", y.fault(1), 7);

        s.says("NONE if there would be more than 700.");
        GluedWords z = new GluedWords();
        for (int i = 1; i <= 35; i++) {
            s.due("feed() number " + i, z.feed(0x20202020, 0x20202020, 0x20202020, 0x20202020, 0x20202020), 20 * i);
        }
        z.many(0);
        s.due("feed() number 36", z.feed(0x5a5a5a5a, 0, 0, 0, 0), -1);
        s.due("status() behind it", z.status(), 0);
        s.due("feed() number 37", z.feed(0x5a5a5a5a, 0, 0, 0, 0), -1);
        s.none("load(701)", z, z.load(701), 1);
        s.good("load(700): nothing of it came", z, z.load(700), 0);
        s.due("feed() on the empty tape", z.feed(0, 0, 0, 0, 0), 20);
    }

    private void load() {
        s.promise(4);
        s.says("The first n bytes of the tape (which is empty then) are the TEXT: how many WORDS");
        GluedWords x = new GluedWords();
        Check.feed(x, "vertex 5;word 0 4;word 0 3;".getBytes(StandardCharsets.ISO_8859_1));
        s.good("load(18)", x, x.load(18), 1);
        s.line(x, 0, "word 0 4;");
        s.none("the tape is empty", x, x.load(1), 1);
        s.due("feed() on it", x.feed(0, 0, 0, 0, 0), 20);
        s.good("load(0)", x, x.load(0), 0);
        s.due("the text without LINES has no VERTICES", x.many(0), 0);
        s.none("the tape is empty behind load(0), too", x, x.load(20), 1);

        s.says("(1: the tape has not so many, too; 9: all stays as it was).");
        s.refused(Makers::busy, "load(-1)", y -> y.load(-1), 1);
        s.refused(Makers::busy, "load(least)", y -> y.load(Integer.MIN_VALUE), 1);
        s.refused(Makers::busy, "load(21)", y -> y.load(21), 1);
        s.refused(Makers::bare, "load(1)", y -> y.load(1), 1);
        s.refused(Makers::busy, "load(17)", y -> y.load(17), 9);
        GluedWords z = Makers.busy();
        z.load(17);
        s.none("the tape is empty behind 9", z, z.load(1), 1);
        s.due("the FAULT", z.fault(0), 2);
        s.due("its place", z.fault(1), 17);
    }

    private void fault() {
        s.promise(5);
        s.says("Of the latest load() with STATUS 0 or 9, what 0: the FAULT (0 without one),"
                + " 1: its place (NONE without), 2: its LINE (NONE without).");
        GluedWords x = new GluedWords();
        Check.load(x, "vertex 4;vertex 99;");
        int[] found = {4, 16, 1};
        int[] none = {0, -1, -1};
        faults("behind 9", x, found);
        x.load(1);
        faults("behind 1", x, found);
        Check.load(x, "vertex 4;");
        faults("behind 0", x, none);
        Check.load(x, "vertex 4;vertex 99;");
        x.undo();
        faults("behind undo()", x, found);
        x.load(0);
        faults("behind load(0)", x, none);

        s.says("NONE for others, and ahead of any.");
        for (int what : new int[] {-1, 3, Integer.MIN_VALUE, Integer.MAX_VALUE}) {
            s.due("fault(" + what + ")", x.fault(what), -1);
        }
        faults("of a new object", new GluedWords(), new int[] {-1, -1, -1});
        GluedWords refused = new GluedWords();
        refused.load(1);
        faults("behind load() with 1 alone", refused, new int[] {-1, -1, -1});
    }

    private void faults(String when, GluedWords x, int[] want) {
        for (int what = 0; what < 3; what++) {
            s.due("fault(" + what + ") " + when, x.fault(what), want[what]);
        }
    }
}
