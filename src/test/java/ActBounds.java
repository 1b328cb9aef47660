/** ACTS and MARKS in part 1 of the terms, and promises 12 to 22. */
final class ActBounds {
    private static final String TWO = Makers.TWO;
    private static final int LEAST = Integer.MIN_VALUE;
    private static final int GREATEST = Integer.MAX_VALUE;
    private final Sentences s;

    ActBounds(Sentences s) {
        this.s = s;
    }

    void all() {
        s.section("part 1");
        acts();
        marks();
        take();
        form();
        times();
        turned();
        power();
        core();
        spell();
        drop();
        undo();
        mark();
        back();
    }

    private void acts() {
        s.says("ACTS: load(), take(), form(), times(), turned(), power(), core(), spell(), drop() with STATUS 0;");
        GluedWords x = Check.made(TWO);
        s.due("acts behind load()", x.many(3), 1);
        x.take(0, 1);
        s.due("acts behind take()", x.many(3), 2);
        x.form(0);
        s.due("acts behind form(), though it was a FORM", x.many(3), 3);
        x.times(0, 0);
        s.due("acts behind times()", x.many(3), 4);
        x.turned(0);
        s.due("acts behind turned()", x.many(3), 5);
        x.power(0, 0);
        s.due("acts behind power()", x.many(3), 6);
        x.core(0);
        s.due("acts behind core()", x.many(3), 7);
        x.spell(0, 0, 0);
        s.due("acts behind spell()", x.many(3), 8);
        GluedWords y = Check.made(TWO + "word 0;");
        y.drop(0);
        s.due("acts behind drop()", y.many(3), 2);
        y.mark();
        y.back();
        y.take(0, -1);
        y.form(0);
        y.drop(0);
        Check.load(y, "vertex");
        y.feed(0, 0, 0, 0, 0);
        y.ball(0, 1);
        s.due("acts behind others, and behind such with another STATUS", y.many(3), 2);

        s.says("the latest 8 can be undone.");
        GluedWords z = Check.made("vertex 60;");
        for (int i = 0; i < 7; i++) {
            z.take(0, i);
        }
        s.due("8 acts", z.many(3), 8);
        z.take(0, 7);
        z.take(0, 8);
        s.due("10 acts", z.many(3), 8);
        for (int left = 7; left >= 0; left--) {
            s.good("undo()", z, z.undo(), left);
            s.due("words behind it", z.many(2), left + 1);
        }
        s.none("undo() of the ninth", z, z.undo(), 5);
        s.line(z, 0, "word 0 0;");
        z.take(0, 9);
        s.good("undo() of an ACT that came behind undo()", z, z.undo(), 0);
        s.due("words behind it", z.many(2), 1);
        GluedWords w = Check.made("vertex 60;word 0;");
        takeAndDrop(w, 0, 29);
        undoAll(w, 29);
    }

    /** Two ACTS each time: word 0 is the number that was taken last. */
    private static void takeAndDrop(GluedWords x, int from, int to) {
        for (int i = from; i <= to; i++) {
            x.take(0, i);
            x.drop(0);
        }
    }

    /** The latest 8, behind takeAndDrop() to a number. */
    private void undoAll(GluedWords x, int last) {
        for (int i = 0; i < 8; i++) {
            s.good("undo() number " + (i + 1), x, x.undo(), 7 - i);
            s.due("words behind it", x.many(2), 2 - i % 2);
            s.due("the first of them", x.number(0, 0), last - 1 - i / 2);
        }
        s.none("undo() number 9", x, x.undo(), 5);
    }

    private void marks() {
        s.says("MARKS, at most 3:");
        GluedWords x = Check.made(TWO);
        for (int i = 1; i <= 3; i++) {
            s.good("mark()", x, x.mark(), i);
            s.due("many(4)", x.many(4), i);
        }
        s.none("a fourth", x, x.mark(), 3);
        x.back();
        s.good("mark() behind back()", x, x.mark(), 3);

        s.says("all is taken back to the latest one, which is gone then (no ACT).");
        GluedWords y = Check.made(TWO + "word 0 3 > 0 5;");
        y.mark();
        y.take(1, 4);
        y.mark();
        y.form(0);
        Check.load(y, "vertex 9;");
        s.good("back()", y, y.back(), 1);
        s.due("VERTICES", y.many(0), 2);
        s.due("EDGES", y.many(1), 1);
        s.due("WORDS", y.many(2), 2);
        s.line(y, 0, "word 0 3 > 0 5;");
        s.due("acts as at the MARK", y.many(3), 2);
        s.good("back() to the one ahead of it", y, y.back(), 0);
        s.due("WORDS", y.many(2), 1);
        s.due("acts as at the MARK", y.many(3), 1);
        s.none("back() without one", y, y.back(), 5);
        GluedWords z = Check.made("vertex 60;word 0;");
        takeAndDrop(z, 0, 10);
        z.mark();
        takeAndDrop(z, 11, 12);
        z.mark();
        takeAndDrop(z, 13, 20);
        s.good("back() to the second", z, z.back(), 1);
        s.line(z, 0, "word 0 12;");
        s.due("acts as at the second", z.many(3), 8);
        z.undo();
        s.good("back() to the first", z, z.back(), 0);
        s.line(z, 0, "word 0 10;");
        undoAll(z, 10);
    }

    private void take() {
        s.promise(12);
        s.says("A WORD more, without STEPS: a number of a VERTEX, cut down round: which it is");
        GluedWords x = Check.made(TWO + "vertex 1;");
        int[][] taken = {{0, 0, 0}, {0, 3, 3}, {0, 4, 0}, {1, 5, 5}, {1, 6, 0}, {1, GREATEST, 1}, {2, 0, 0}, {2, GREATEST, 0}};
        for (int i = 0; i < taken.length; i++) {
            s.good("take(" + taken[i][0] + ", " + taken[i][1] + ")", x, x.take(taken[i][0], taken[i][1]), i);
            s.line(x, i, "word " + taken[i][0] + " " + taken[i][2] + ";");
        }
        s.good("the tenth", x, x.take(0, 1) + x.take(0, 2), 17);

        s.says("(1: number below 0; 2; 3).");
        s.refused(Makers::busy, "take(0, -1)", y -> y.take(0, -1), 1);
        s.refused(Makers::busy, "take(0, least)", y -> y.take(0, LEAST), 1);
        s.refused(Makers::busy, "take(2, -1)", y -> y.take(2, -1), 1);
        s.refused(Makers::full, "take(0, -1), full", y -> y.take(0, -1), 1);
        s.refused(Makers::busy, "take(2, 0)", y -> y.take(2, 0), 2);
        s.refused(Makers::busy, "take(-1, 0)", y -> y.take(-1, 0), 2);
        s.refused(Makers::bare, "take(0, 0)", y -> y.take(0, 0), 2);
        s.refused(Makers::full, "take(2, 0), full", y -> y.take(2, 0), 2);
        s.refused(Makers::full, "an eleventh", y -> y.take(0, 0), 3);
    }

    private void form() {
        s.promise(13);
        s.says("A WORD becomes its FORM: how many STEPS it has then");
        GluedWords x = Check.made(TWO + "word 0 3 > 0 5 < 0 3;word 0 1 > 0 3 < 0 1;word 1 5;word 0 3 > 0;");
        int[] steps = {2, 0, 0, 1};
        String[] forms = {"word 0 1 > 0 2 < 0 3;", "word 0 0;", "word 1 5;", "word 0 1 > 0 3;"};
        for (int w = 0; w < 4; w++) {
            s.good("form(" + w + ")", x, x.form(w), steps[w]);
            s.line(x, w, forms[w]);
        }
        s.due("no WORD came", x.many(2), 4);
        GluedWords y = Check.made("vertex 1;edge 0 1 0 1;word 0" + ">0".repeat(24) + ";word 0" + ">0<0".repeat(12) + ";");
        s.good("form() of 24 steps", y, y.form(0), 24);
        s.good("form() of 12 pinches", y, y.form(1), 0);

        s.says("(2).");
        s.refused(Makers::busy, "form(6)", z -> z.form(6), 2);
        s.refused(Makers::busy, "form(-1)", z -> z.form(-1), 2);
        s.refused(Makers::full, "form(10)", z -> z.form(10), 2);
        s.refused(Makers::bare, "form(0)", z -> z.form(0), 2);
    }

    private void times() {
        s.promise(14);
        s.says("A WORD more: the PRODUCT of two: which it is");
        GluedWords x = Check.made(TWO + "word 0 3 > 0 5;word 1 4 < 0 1;word 0;word 0 3;");
        // 3 leaves 1 and carries 3; 3 and 5 and 4 are 0: a PINCH with 0; 1 and 1
        s.good("times(0, 1)", x, x.times(0, 1), 4);
        s.line(x, 4, "word 0 2;");
        s.good("times(2, 0): by a WORD without STEPS", x, x.times(2, 0), 5);
        s.line(x, 5, "word 0 1 > 0 2;");
        s.good("times(3, 3)", x, x.times(3, 3), 6);
        s.line(x, 6, "word 0 2;");
        GluedWords y = Makers.longest();
        s.good("24 steps and one back", y, y.times(0, 2), 3);
        s.due("its steps", y.word(3, 2), 23);
        s.good("23 steps and one more", y, y.times(1, 3), 4);
        s.due("its steps", y.word(4, 2), 24);

        s.says("(2; 3; 4; 6).");
        s.refused(Makers::busy, "times(0, 6)", z -> z.times(0, 6), 2);
        s.refused(Makers::busy, "times(6, 0)", z -> z.times(6, 0), 2);
        s.refused(Makers::busy, "times(-1, 0)", z -> z.times(-1, 0), 2);
        s.refused(Makers::busy, "times(0, -1)", z -> z.times(0, -1), 2);
        s.refused(Makers::full, "times(10, 0), full", z -> z.times(10, 0), 2);
        s.refused(Makers::full, "an eleventh", z -> z.times(0, 0), 3);
        s.refused(Makers::full, "an eleventh that does not fit", z -> z.times(1, 0), 3);
        s.refused(Makers::fullAndLong, "an eleventh that is too long", z -> z.times(9, 9), 3);
        s.refused(Makers::busy, "the first ends elsewhere", z -> z.times(1, 0), 4);
        s.refused(Makers::busy, "the second begins elsewhere", z -> z.times(0, 3), 4);
        s.refused(Makers::longest, "25 steps", z -> z.times(0, 1), 6);
        s.refused(Makers::longest, "25 steps, the long one behind", z -> z.times(1, 0), 6);
        s.refused(Makers::longest, "48 steps", z -> z.times(0, 0), 6);
    }

    private void turned() {
        s.promise(15);
        s.says("A WORD more: the TURNED one");
        GluedWords x = Check.made(TWO + "word 0 3 > 0 5;word 0;word 0 1 > 0 3 < 0 1;");
        s.good("turned(0)", x, x.turned(0), 3);
        s.line(x, 3, "word 1 1 < 0 1;");
        s.good("turned(1)", x, x.turned(1), 4);
        s.line(x, 4, "word 0 0;");
        s.good("turned(2): its FORM", x, x.turned(2), 5);
        s.line(x, 5, "word 0 0;");
        s.line(x, 2, "word 0 1 > 0 3 < 0 1;");
        GluedWords y = Makers.longest();
        s.good("turned() of 24 steps", y, y.turned(0), 3);
        s.due("its steps", y.word(3, 2), 24);
        s.due("its last step", y.step(3, 23), 1);

        s.says("(2; 3).");
        s.refused(Makers::busy, "turned(6)", z -> z.turned(6), 2);
        s.refused(Makers::busy, "turned(-1)", z -> z.turned(-1), 2);
        s.refused(Makers::full, "turned(10), full", z -> z.turned(10), 2);
        s.refused(Makers::full, "an eleventh", z -> z.turned(0), 3);
    }

    private void power() {
        s.promise(16);
        s.says("A WORD more: a LOOP so many times (0 to 9; TURNED: -9 to -1), as PRODUCTS one by one");
        GluedWords x = Check.made("vertex 60;word 0 7;");
        int[][] powers = {{9, 3}, {-9, 57}, {1, 7}, {-1, 53}, {2, 14}};
        for (int i = 0; i < powers.length; i++) {
            s.good("power(0, " + powers[i][0] + ")", x, x.power(0, powers[i][0]), i + 1);
            s.line(x, i + 1, "word 0 " + powers[i][1] + ";");
        }
        GluedWords y = Check.made(TWO + "word 0 3 > 0 4 < 0;");
        y.power(0, 1);
        s.line(y, 1, "word 0 1 > 0 1 < 0 0;");
        y.power(0, 2);
        s.line(y, 2, "word 0 1 > 0 1 < 0 1 > 0 1 < 0 0;");
        y.power(0, -1);
        s.line(y, 3, "word 0 0 > 0 2 < 0 1;");

        s.says("(0: number 0 where it begins)");
        GluedWords z = Check.made(TWO + "word 1 1 < 0 1 > 0;word 0 3;");
        s.good("power(0, 0)", z, z.power(0, 0), 2);
        s.line(z, 2, "word 1 0;");
        s.good("power(1, 0)", z, z.power(1, 0), 3);
        s.line(z, 3, "word 0 0;");

        s.says("(1; 2; 3; 4; 6).");
        s.refused(Makers::busy, "power(0, 10)", w -> w.power(0, 10), 1);
        s.refused(Makers::busy, "power(0, -10)", w -> w.power(0, -10), 1);
        s.refused(Makers::busy, "power(6, least)", w -> w.power(6, LEAST), 1);
        s.refused(Makers::busy, "power(1, 10)", w -> w.power(1, 10), 1);
        s.refused(Makers::full, "power(0, 10), full", w -> w.power(0, 10), 1);
        s.refused(Makers::busy, "power(6, 9)", w -> w.power(6, 9), 2);
        s.refused(Makers::busy, "power(-1, 0)", w -> w.power(-1, 0), 2);
        s.refused(Makers::full, "power(10, 0), full", w -> w.power(10, 0), 2);
        s.refused(Makers::full, "an eleventh", w -> w.power(0, 0), 3);
        s.refused(Makers::full, "an eleventh of no LOOP", w -> w.power(1, 1), 3);
        s.refused(Makers::fullAndLong, "an eleventh that is too long", w -> w.power(9, 2), 3);
        s.refused(Makers::busy, "power(1, 1)", w -> w.power(1, 1), 4);
        s.refused(Makers::busy, "power(1, 0)", w -> w.power(1, 0), 4);
        s.refused(Makers::busy, "power(1, -9)", w -> w.power(1, -9), 4);
        s.refused(Makers::longest, "48 steps", w -> w.power(0, 2), 6);
        s.refused(Makers::longest, "48 steps, TURNED", w -> w.power(0, -2), 6);
        s.refused(ActBounds::threeSteps, "27 steps", w -> w.power(0, 9), 6);
        s.refused(ActBounds::threeSteps, "27 steps, TURNED", w -> w.power(0, -9), 6);
        GluedWords three = threeSteps();
        s.good("24 steps", three, three.power(0, 8), 1);
        s.due("its steps", three.word(1, 2), 24);
        s.good("24 steps, TURNED", three, three.power(0, -8), 2);
    }

    private static GluedWords threeSteps() {
        return Check.made("vertex 1;edge 0 1 0 1;word 0 > 0 > 0 > 0;");
    }

    private void core() {
        s.promise(17);
        s.says("A WORD more: the CORE of a LOOP");
        GluedWords x = Check.made(TWO + "word 0 1 > 0 2 < 0 3;word 0 1 > 0 2 < 0 2;word 1 4;word 0 3 > 0 3 < 0;");
        String[] cores = {"word 1 2;", "word 0 1 > 0 2 < 0 2;", "word 1 4;", "word 0 1;"};
        for (int w = 0; w < cores.length; w++) {
            s.good("core(" + w + ")", x, x.core(w), 4 + w);
            s.line(x, 4 + w, cores[w]);
        }

        s.says("(2; 3; 4).");
        s.refused(Makers::busy, "core(6)", z -> z.core(6), 2);
        s.refused(Makers::busy, "core(-1)", z -> z.core(-1), 2);
        s.refused(Makers::full, "core(10), full", z -> z.core(10), 2);
        s.refused(Makers::full, "an eleventh", z -> z.core(0), 3);
        s.refused(Makers::full, "an eleventh of no LOOP", z -> z.core(1), 3);
        s.refused(Makers::busy, "core(1)", z -> z.core(1), 4);
    }

    private void spell() {
        s.promise(18);
        s.says("A WORD more: the i-th that is LISTED of the SPHERE of k (0 to 12) STEPS at a VERTEX: which it is");
        GluedWords x = Check.made(TWO + "word 0;");
        s.good("spell(1, 0, 0)", x, x.spell(1, 0, 0), 1);
        s.line(x, 1, "word 1 0;");
        s.good("spell(1, 0, 5), the last", x, x.spell(1, 0, 5), 2);
        s.line(x, 2, "word 1 5;");
        s.good("spell(0, 2, 0)", x, x.spell(0, 2, 0), 3);
        s.line(x, 3, "word 0 0 > 0 1 < 0 0;");
        s.good("spell(0, 2, 15), the last", x, x.spell(0, 2, 15), 4);
        s.line(x, 4, "word 0 1 > 0 2 < 0 3;");
        // 2 times 2 times 1, five times more 2 and 1, and 4: 2 * 2 * 2^5 * 4
        s.good("spell(0, 12, 511), the last", x, x.spell(0, 12, 511), 5);
        s.line(x, 5, "word 0 1" + " > 0 2 < 0 1".repeat(5) + " > 0 2 < 0 3;");
        s.good("spell(0, 12, 0)", x, x.spell(0, 12, 0), 6);
        s.line(x, 6, "word 0 0" + " > 0 1 < 0 1".repeat(5) + " > 0 1 < 0 0;");
        GluedWords wide = Check.made(Makers.WIDE);
        s.good("spell(0, 12, the last int)", wide, wide.spell(0, 12, GREATEST), 0);
        s.due("where it is LISTED", wide.listed(0), GREATEST);

        s.says("(1: k, i below 0; 2; 3; 5: not so many).");
        s.refused(Makers::busy, "spell(0, -1, 0)", z -> z.spell(0, -1, 0), 1);
        s.refused(Makers::busy, "spell(0, 13, 0)", z -> z.spell(0, 13, 0), 1);
        s.refused(Makers::busy, "spell(0, 0, -1)", z -> z.spell(0, 0, -1), 1);
        s.refused(Makers::busy, "spell(0, 1, least)", z -> z.spell(0, 1, LEAST), 1);
        s.refused(Makers::busy, "spell(2, 13, 0)", z -> z.spell(2, 13, 0), 1);
        s.refused(Makers::busy, "spell(2, 0, -1)", z -> z.spell(2, 0, -1), 1);
        s.refused(Makers::full, "spell(0, -1, 0), full", z -> z.spell(0, -1, 0), 1);
        s.refused(Makers::busy, "spell(2, 0, 0)", z -> z.spell(2, 0, 0), 2);
        s.refused(Makers::busy, "spell(-1, 12, 99)", z -> z.spell(-1, 12, 99), 2);
        s.refused(Makers::full, "spell(2, 0, 0), full", z -> z.spell(2, 0, 0), 2);
        s.refused(Makers::full, "an eleventh", z -> z.spell(0, 0, 0), 3);
        s.refused(Makers::full, "an eleventh that is not there", z -> z.spell(0, 1, 0), 3);
        s.refused(Makers::busy, "spell(0, 0, 4)", z -> z.spell(0, 0, 4), 5);
        s.refused(Makers::busy, "spell(0, 1, 0)", z -> z.spell(0, 1, 0), 5);
        s.refused(Makers::busy, "spell(0, 2, 16)", z -> z.spell(0, 2, 16), 5);
        s.refused(Makers::busy, "spell(0, 12, 512)", z -> z.spell(0, 12, 512), 5);
        s.refused(Makers::busy, "spell(0, 2, the last int)", z -> z.spell(0, 2, GREATEST), 5);
    }

    private void drop() {
        s.promise(19);
        s.says("A WORD goes: how many are left");
        GluedWords x = Check.made(TWO + "word 0 1;word 0 2 > 0 5;word 1 3;");
        s.good("drop(0)", x, x.drop(0), 2);
        s.line(x, 0, "word 0 2 > 0 5;");
        s.line(x, 1, "word 1 3;");
        s.good("drop(1), the last", x, x.drop(1), 1);
        s.line(x, 0, "word 0 2 > 0 5;");
        s.good("drop(0), the only one", x, x.drop(0), 0);
        GluedWords full = Makers.full();
        s.good("drop(9) of ten", full, full.drop(9), 9);

        s.says("(2).");
        s.refused(Makers::busy, "drop(6)", z -> z.drop(6), 2);
        s.refused(Makers::busy, "drop(-1)", z -> z.drop(-1), 2);
        s.refused(Makers::full, "drop(10)", z -> z.drop(10), 2);
        s.refused(Makers::bare, "drop(0)", z -> z.drop(0), 2);
    }

    private void undo() {
        s.promise(20);
        s.says("The latest ACT is undone: how many can be still");
        GluedWords x = Check.made(TWO + "word 0 3 > 0 5 < 0 3;");
        x.form(0);
        x.drop(0);
        s.good("undo() of drop()", x, x.undo(), 2);
        s.line(x, 0, "word 0 1 > 0 2 < 0 3;");
        s.good("undo() of form()", x, x.undo(), 1);
        s.line(x, 0, "word 0 3 > 0 5 < 0 3;");
        Check.load(x, "vertex 7;");
        s.good("undo() of load()", x, x.undo(), 1);
        s.due("VERTICES", x.many(0), 2);
        s.line(x, 0, "word 0 3 > 0 5 < 0 3;");
        s.good("undo() of the first", x, x.undo(), 0);
        s.due("VERTICES", x.many(0), 0);
        s.due("WORDS", x.many(2), 0);
        GluedWords y = Check.made(TWO);
        y.mark();
        y.take(0, 1);
        y.undo();
        s.due("MARKS stay behind undo()", y.many(4), 1);
        Check.load(y, "vertex 7;");
        s.due("MARKS stay behind load()", y.many(4), 1);
        y.undo();
        s.due("MARKS stay behind its undo()", y.many(4), 1);

        s.says("(5).");
        s.refused(Makers::bare, "undo()", GluedWords::undo, 5);
        s.refused(ActBounds::undone, "undo()", GluedWords::undo, 5);
    }

    private static GluedWords undone() {
        GluedWords x = Makers.full();
        for (int i = 0; i < 8; i++) {
            x.undo();
        }
        return x;
    }

    private void mark() {
        s.promise(21);
        s.says("A MARK more: how many");
        GluedWords x = new GluedWords();
        for (int i = 1; i <= 3; i++) {
            s.good("mark()", x, x.mark(), i);
        }
        s.due("acts", x.many(3), 0);

        s.says("(3).");
        s.refused(Makers::marked, "a fourth", GluedWords::mark, 3);
    }

    private void back() {
        s.promise(22);
        s.says("All is taken back to the latest MARK: how many are left");
        GluedWords x = new GluedWords();
        x.mark();
        Check.load(x, "vertex 2;");
        x.mark();
        x.take(0, 1);
        x.mark();
        x.undo();
        x.undo();
        s.due("VERTICES, undone", x.many(0), 0);
        s.good("back() over undo()", x, x.back(), 2);
        s.line(x, 0, "word 0 1;");
        s.due("acts as at the MARK", x.many(3), 2);
        s.good("back() over take()", x, x.back(), 1);
        s.due("WORDS", x.many(2), 0);
        s.due("VERTICES", x.many(0), 1);
        s.good("back() over load()", x, x.back(), 0);
        s.due("VERTICES", x.many(0), 0);
        s.due("acts", x.many(3), 0);
        s.none("undo(): there was nothing to be undone at the MARK", x, x.undo(), 5);
        GluedWords y = Check.made("vertex 60;");
        y.mark();
        for (int i = 0; i < 10; i++) {
            y.take(0, i);
        }
        s.good("back() over more ACTS than can be undone", y, y.back(), 0);
        s.due("WORDS", y.many(2), 0);
        s.due("acts as at the MARK", y.many(3), 1);

        s.says("(5).");
        s.refused(Makers::bare, "back()", GluedWords::back, 5);
        s.refused(ActBounds::backAgain, "back()", GluedWords::back, 5);
    }

    private static GluedWords backAgain() {
        GluedWords x = Makers.marked();
        for (int i = 0; i < 3; i++) {
            x.back();
        }
        return x;
    }
}
