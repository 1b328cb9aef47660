/** Promises 12 to 22: the acts, what undoes them, marks. */
public final class ActsTest {
    private static final String S = "vertex 4;vertex 6;edge 0 2 1 3;";
    private static final Check check = new Check();

    public static void main(String[] args) {
        take();
        form();
        times();
        turned();
        power();
        core();
        spell();
        drop();
        undo();
        marks();
        refusedChangesNothing();
        check.end();
    }

    private static void word(int promise, GluedWords x, int word, String want) {
        check.dueText(promise, "word " + word, Check.told(x, word), want);
    }

    private static GluedWords full() {
        GluedWords x = Check.made(S + "word 0 1 > 0 1 < 0;word 0 > 0;");
        for (int i = 2; i < 10; i++) {
            x.take(0, i);
        }
        return x;
    }

    private static void take() {
        GluedWords x = Check.made(S);
        check.due(12, "take(0, 3)", x, x.take(0, 3), 0, 0);
        check.due(12, "take(1, 13)", x, x.take(1, 13), 1, 0);
        check.due(12, "take(1, big)", x, x.take(1, Integer.MAX_VALUE), 2, 0);
        word(12, x, 0, "word 0 3;");
        word(12, x, 1, "word 1 1;");
        word(12, x, 2, "word 1 1;");
        check.due(12, "acts", x.many(3), 4);
        check.none(12, "take(0, -1)", x, x.take(0, -1), 1);
        check.none(12, "take(9, -1)", x, x.take(9, -1), 1);
        check.none(12, "take(2, 0)", x, x.take(2, 0), 2);
        check.none(12, "take(-1, 0)", x, x.take(-1, 0), 2);
        GluedWords y = full();
        check.none(12, "an eleventh", y, y.take(0, 0), 3);
        check.none(12, "an eleventh of none", y, y.take(2, 0), 2);
        check.due(12, "acts when full", y.many(3), 8);
    }

    private static void form() {
        GluedWords x = Check.made(S + "word 0 3 > 0 5 < 0 3;word 0 > 0 5 < 0;word 0 1 > 0 3 < 0 1;word 0 2 > 0 1;"
                + "word 1 5 < 0 3 > 0 5 < 0 3;word 0 1 > 0 1 < 0 3 > 0 2 < 0 2 > 0 2 < 0;");
        check.due(13, "form(0)", x, x.form(0), 2, 0);
        word(13, x, 0, "word 0 1 > 0 2 < 0 3;");
        check.due(13, "form(1)", x, x.form(1), 2, 0);
        word(13, x, 1, "word 0 0 > 0 2 < 0 2;");
        check.due(13, "form(2)", x, x.form(2), 0, 0);
        word(13, x, 2, "word 0 0;");
        check.due(13, "form(3)", x, x.form(3), 1, 0);
        word(13, x, 3, "word 0 0 > 0 4;");
        check.due(13, "form(4)", x, x.form(4), 3, 0);
        word(13, x, 4, "word 1 2 < 0 1 > 0 2 < 0 1;");
        // 1 > 1 < 3 > 2 < 2: 3 leaves 1 and carries 3; 3 and 2 leave 2 and carry 2; 2 and 2 are 0; 2 of 3 is no pinch
        check.due(13, "form(5)", x, x.form(5), 4, 0);
        word(13, x, 5, "word 0 1 > 0 1 < 0 1 > 0 1 < 0 2;");
        check.due(13, "form() of a form", x, x.form(5), 4, 0);
        check.due(13, "acts", x.many(3), 8);
        check.due(13, "it is as its form", x.word(5, 3), 1);
        GluedWords y = Check.made("vertex 1;vertex 12;vertex 18;edge 0 1 0 1;edge 0 1 1 12;edge 1 6 2 9;edge 1 2 2 3;edge 2 2 2 2;"
                + "word 1 11 > 3 5 < 3 7;word 2 17 < 2 11 > 3 1;word 2 5 > 4 3 > 4 1 < 4 4;");
        y.form(0);
        // 11 leaves 1 and carries 15; 15 and 5 are 2; 2 leaves 2 and carries nothing
        word(13, y, 0, "word 1 1 > 3 2 < 3 7;");
        y.form(1);
        // 17 leaves 8 and carries 6; 6 and 11 are 5; 5 leaves 1 and carries 6
        word(13, y, 1, "word 2 8 < 2 1 > 3 7;");
        y.form(2);
        // 5 leaves 1 and carries 4; 7 leaves 1 and carries 6; 7 leaves 1 and carries 6
        word(13, y, 2, "word 2 1 > 4 1 > 4 1 < 4 10;");
        check.none(13, "form(6)", x, x.form(6), 2);
        check.none(13, "form(-1)", x, x.form(-1), 2);
    }

    private static void times() {
        GluedWords x = Check.made(S + "word 0 1 > 0 1 < 0;word 0 > 0 2 < 0 3;word 0 > 0 1;word 1 2 < 0;");
        check.due(14, "times(0, 1)", x, x.times(0, 1), 4, 0);
        // the two steps in the middle are a pinch with 0, then 1 and 2 are once 3: 1 and 2 and 3
        word(14, x, 4, "word 0 2;");
        check.due(14, "times(2, 3)", x, x.times(2, 3), 5, 0);
        word(14, x, 5, "word 0 2;");
        check.due(14, "times(3, 2)", x, x.times(3, 2), 6, 0);
        word(14, x, 6, "word 1 3;");
        check.due(14, "times(0, 0)", x, x.times(0, 0), 7, 0);
        word(14, x, 7, "word 0 1 > 0 1 < 0 1 > 0 1 < 0 0;");
        word(14, x, 0, "word 0 1 > 0 1 < 0 0;");
        check.none(14, "times(0, 3)", x, x.times(0, 3), 4);
        check.none(14, "times(2, 0)", x, x.times(2, 0), 4);
        check.none(14, "times(8, 0)", x, x.times(8, 0), 2);
        check.none(14, "times(0, -1)", x, x.times(0, -1), 2);
        GluedWords y = full();
        check.none(14, "an eleventh", y, y.times(0, 0), 3);
        check.none(14, "an eleventh that does not fit", y, y.times(1, 1), 3);
        check.none(14, "an eleventh of none", y, y.times(0, 10), 2);
        GluedWords z = Check.made("vertex 2;edge 0 2 0 2;word 0" + " > 0".repeat(24) + ";word 0 > 0;word 0 < 0;word 0 1;");
        check.none(14, "25 steps", z, z.times(0, 1), 6);
        check.none(14, "25 steps the other way", z, z.times(1, 0), 6);
        check.none(14, "48 steps", z, z.times(0, 0), 6);
        check.due(14, "23 steps", z, z.times(0, 2), 4, 0);
        check.due(14, "its steps", z.word(4, 2), 23);
        check.due(14, "24 steps", z, z.times(4, 1), 5, 0);
        check.due(14, "alike", z.alike(5, 0), 1);
        check.due(14, "24 steps and a number", z, z.times(0, 3), 6, 0);
        check.due(14, "its last number", z.number(6, 24), 1);
    }

    private static void turned() {
        GluedWords x = Check.made(S + "word 0 1 > 0 1 < 0;word 0 3 > 0 5;word 1 2;");
        check.due(15, "turned(0)", x, x.turned(0), 3, 0);
        // 0 > -1 < -1: 5 leaves 2 and carries 2, 2 and 3 are 1
        word(15, x, 3, "word 0 0 > 0 2 < 0 1;");
        check.due(15, "turned(1)", x, x.turned(1), 4, 0);
        word(15, x, 4, "word 1 1 < 0 1;");
        check.due(15, "turned(2)", x, x.turned(2), 5, 0);
        word(15, x, 5, "word 1 4;");
        check.due(15, "times(1, 4)", x, x.times(1, 4), 6, 0);
        word(15, x, 6, "word 0 0;");
        check.due(15, "times(4, 1)", x, x.times(4, 1), 7, 0);
        word(15, x, 7, "word 1 0;");
        check.none(15, "turned(8)", x, x.turned(8), 2);
        check.none(15, "turned(-1)", x, x.turned(-1), 2);
        GluedWords y = full();
        check.none(15, "an eleventh", y, y.turned(0), 3);
        check.none(15, "an eleventh of none", y, y.turned(10), 2);
    }

    private static void power() {
        GluedWords x = Check.made(S + "word 0 1 > 0 1 < 0;word 0 3;word 0 > 0 4 < 0;word 0 > 0;word 0 1 > 0 1 < 0 1 > 0 2 < 0;");
        check.due(16, "power(0, 2)", x, x.power(0, 2), 5, 0);
        word(16, x, 5, "word 0 1 > 0 1 < 0 1 > 0 1 < 0 0;");
        check.due(16, "power(0, 0)", x, x.power(0, 0), 6, 0);
        word(16, x, 6, "word 0 0;");
        check.due(16, "power(1, 9)", x, x.power(1, 9), 7, 0);
        word(16, x, 7, "word 0 3;");
        check.due(16, "power(2, 1)", x, x.power(2, 1), 8, 0);
        word(16, x, 8, "word 0 0 > 0 1 < 0 2;");
        check.due(16, "power(0, -1)", x, x.power(0, -1), 9, 0);
        word(16, x, 9, "word 0 0 > 0 2 < 0 1;");
        check.none(16, "an eleventh", x, x.power(0, 1), 3);
        check.none(16, "an eleventh of no loop", x, x.power(3, 1), 3);
        check.none(16, "an eleventh of none", x, x.power(10, 1), 2);
        x.drop(9);
        check.due(16, "power(0, -9)", x, x.power(0, -9), 9, 0);
        check.due(16, "its steps", x.steps(9), 18);
        x.drop(9);
        check.due(16, "power(0, 9)", x, x.power(0, 9), 9, 0);
        x.drop(9);
        check.due(16, "power(2, 3)", x, x.power(2, 3), 9, 0);
        word(16, x, 9, "word 0 0;");
        x.drop(9);
        check.due(16, "power(4, 6)", x, x.power(4, 6), 9, 0);
        check.due(16, "24 steps", x.word(9, 2), 24);
        x.drop(9);
        check.none(16, "power(4, 7)", x, x.power(4, 7), 6);
        check.none(16, "power(4, -9)", x, x.power(4, -9), 6);
        check.none(16, "power(3, 0)", x, x.power(3, 0), 4);
        check.none(16, "power(0, 10)", x, x.power(0, 10), 1);
        check.none(16, "power(0, -10)", x, x.power(0, -10), 1);
        check.none(16, "power(77, min)", x, x.power(77, Integer.MIN_VALUE), 1);
        check.none(16, "power(9, 1)", x, x.power(9, 1), 2);
        check.none(16, "power(-1, 0)", x, x.power(-1, 0), 2);
    }

    private static void core() {
        GluedWords x = Check.made(S + "word 0 1 > 0 2 < 0 3;word 0 1 > 0 2 < 0 1;word 0 1 > 0 2 < 0 2;word 0 > 0;"
                + "word 0 > 0 1 < 0 1 > 0 1 < 0 1 > 0 4 < 0;word 0 2;word 0 > 0 1 < 0 1 > 0 1 < 0 1 > 0 5 < 0;");
        x.core(6);
        // three ends go: with 2 and 0, 5 and 1, 1 and 1
        word(17, x, 7, "word 1 4;");
        x.drop(7);
        x.drop(6);
        check.due(17, "core(0)", x, x.core(0), 6, 0);
        // 3 and 1 are 0 times 2
        word(17, x, 6, "word 1 2;");
        check.due(17, "core(1)", x, x.core(1), 7, 0);
        // 1 and 1 are once 2: 3 more
        word(17, x, 7, "word 1 5;");
        check.due(17, "core(2)", x, x.core(2), 8, 0);
        word(17, x, 8, "word 0 1 > 0 2 < 0 2;");
        check.due(17, "core(5)", x, x.core(5), 9, 0);
        word(17, x, 9, "word 0 2;");
        check.none(17, "an eleventh", x, x.core(0), 3);
        check.none(17, "an eleventh of no loop", x, x.core(3), 3);
        check.none(17, "an eleventh of none", x, x.core(11), 2);
        x.drop(9);
        check.due(17, "core(4)", x, x.core(4), 9, 0);
        // 0 > 1 < 1 > 1 < 1 > 1 < 2: the ends go with 2 and 0, once 2, so 1 and 3 are 4 at the end
        word(17, x, 9, "word 1 1 < 0 1 > 0 1 < 0 1 > 0 4;");
        x.drop(9);
        check.none(17, "core(3)", x, x.core(3), 4);
        check.none(17, "core(9)", x, x.core(9), 2);
        check.none(17, "core(-1)", x, x.core(-1), 2);
        GluedWords y = Check.made("vertex 4;edge 0 2 0 2;word 0 1 > 0 1 > 0 1 < 0 3 < 0 3;word 0 1 > 0 1 > 0 1;");
        check.due(17, "core of a loop along loops", y, y.core(0), 2, 0);
        word(17, y, 2, "word 0 1;");
        check.due(17, "core without ends to cut", y, y.core(1), 3, 0);
        word(17, y, 3, "word 0 1 > 0 1 > 0 1;");
    }

    private static void spell() {
        GluedWords x = Check.made(S);
        check.due(18, "spell(0, 2, 0)", x, x.spell(0, 2, 0), 0, 0);
        word(18, x, 0, "word 0 0 > 0 1 < 0 0;");
        check.due(18, "spell(0, 2, 15)", x, x.spell(0, 2, 15), 1, 0);
        word(18, x, 1, "word 0 1 > 0 2 < 0 3;");
        check.due(18, "spell(0, 2, 6)", x, x.spell(0, 2, 6), 2, 0);
        word(18, x, 2, "word 0 0 > 0 2 < 0 2;");
        check.due(18, "spell(1, 0, 5)", x, x.spell(1, 0, 5), 3, 0);
        word(18, x, 3, "word 1 5;");
        check.none(18, "spell(0, 2, 16)", x, x.spell(0, 2, 16), 5);
        check.none(18, "spell(0, 1, 0)", x, x.spell(0, 1, 0), 5);
        check.none(18, "spell(1, 0, 6)", x, x.spell(1, 0, 6), 5);
        check.none(18, "spell(0, -1, 0)", x, x.spell(0, -1, 0), 1);
        check.none(18, "spell(0, 13, 0)", x, x.spell(0, 13, 0), 1);
        check.none(18, "spell(0, 0, -1)", x, x.spell(0, 0, -1), 1);
        check.none(18, "spell(9, 13, 0)", x, x.spell(9, 13, 0), 1);
        check.none(18, "spell(2, 0, 0)", x, x.spell(2, 0, 0), 2);
        check.none(18, "spell(-1, 0, 0)", x, x.spell(-1, 0, 0), 2);
        GluedWords y = full();
        check.none(18, "an eleventh", y, y.spell(0, 0, 0), 3);
        check.none(18, "an eleventh that is not there", y, y.spell(0, 1, 0), 3);
        check.none(18, "an eleventh of none", y, y.spell(5, 1, 0), 2);
        GluedWords z = Check.made("vertex 2;edge 0 2 0 2;edge 0 2 0 2;");
        z.spell(0, 1, 5);
        word(18, z, 0, "word 0 0 < 0 1;");
        z.spell(0, 1, 15);
        word(18, z, 1, "word 0 1 < 1 1;");
        // behind < 0: the step > 0 has but the number 1 ahead of it
        z.spell(0, 2, 28);
        word(18, z, 2, "word 0 0 < 0 1 > 0 0;");
        GluedWords big = Check.made("vertex 60;" + "edge 0 60 0 60;".repeat(6));
        check.due(18, "the last int", big, big.spell(0, 12, Integer.MAX_VALUE), 0, 0);
        check.due(18, "its place", big, big.listed(0), Integer.MAX_VALUE, 0);
    }

    private static void drop() {
        GluedWords x = Check.made(S + "word 0 1;word 0 2;word 1 3;word 0 > 0;");
        check.due(19, "drop(1)", x, x.drop(1), 3, 0);
        word(19, x, 0, "word 0 1;");
        word(19, x, 1, "word 1 3;");
        word(19, x, 2, "word 0 0 > 0 0;");
        check.none(19, "drop(3)", x, x.drop(3), 2);
        check.none(19, "drop(-1)", x, x.drop(-1), 2);
        check.due(19, "drop(2)", x, x.drop(2), 2, 0);
        check.due(19, "drop(0)", x, x.drop(0), 1, 0);
        word(19, x, 0, "word 1 3;");
        check.due(19, "drop(0) again", x, x.drop(0), 0, 0);
        check.none(19, "drop(0) of none", x, x.drop(0), 2);
        check.due(19, "acts", x.many(3), 5);
        x.undo();
        word(19, x, 0, "word 1 3;");
    }

    private static void undo() {
        GluedWords x = Check.made(S);
        for (int i = 0; i < 9; i++) {
            x.take(1, i);
        }
        check.due(20, "acts", x.many(3), 8);
        for (int i = 7; i >= 0; i--) {
            check.due(20, "undo() to " + i, x, x.undo(), i, 0);
            check.due(20, "words", x.many(2), i + 1);
        }
        check.none(20, "undo() too many", x, x.undo(), 5);
        check.due(20, "words", x.many(2), 1);
        GluedWords y = Check.made(S + "word 0 3 > 0 5 < 0 3;");
        y.form(0);
        y.undo();
        word(20, y, 0, "word 0 3 > 0 5 < 0 3;");
        y.times(0, 0);
        y.turned(0);
        y.power(0, 2);
        y.core(0);
        y.spell(0, 0, 0);
        y.take(0, 0);
        y.drop(0);
        check.due(20, "acts", y.many(3), 8);
        check.due(20, "words", y.many(2), 6);
        check.due(20, "undo() of drop()", y, y.undo(), 7, 0);
        word(20, y, 0, "word 0 3 > 0 5 < 0 3;");
        for (int i = 6; i >= 1; i--) {
            check.due(20, "undo()", y, y.undo(), i, 0);
            check.due(20, "words", y.many(2), i);
        }
        check.due(20, "undo() of load()", y, y.undo(), 0, 0);
        check.due(20, "vertices", y.many(0), 0);
        check.none(20, "undo() of none", y, y.undo(), 5);
    }

    private static void marks() {
        GluedWords x = Check.made(S);
        check.none(22, "back() without", x, x.back(), 5);
        x.take(0, 1);
        check.due(21, "mark()", x, x.mark(), 1, 0);
        check.due(21, "a mark is no act", x.many(3), 2);
        x.take(0, 2);
        check.due(21, "mark()", x, x.mark(), 2, 0);
        x.take(0, 3);
        check.due(21, "mark()", x, x.mark(), 3, 0);
        check.none(21, "mark()", x, x.mark(), 3);
        x.drop(0);
        check.due(22, "back()", x, x.back(), 2, 0);
        check.due(22, "words", x.many(2), 3);
        word(22, x, 0, "word 0 1;");
        check.due(22, "back()", x, x.back(), 1, 0);
        check.due(22, "words", x.many(2), 2);
        check.due(22, "acts as at the mark", x.many(3), 3);
        Check.load(x, "vertex 9;");
        check.due(22, "back() over a text", x, x.back(), 0, 0);
        check.due(22, "vertices", x.many(0), 2);
        check.due(22, "words", x.many(2), 1);
        check.due(22, "acts as at the mark", x.many(3), 2);
        check.due(22, "undo() of what was ahead of the mark", x, x.undo(), 1, 0);
        check.due(22, "words", x.many(2), 0);
        check.none(22, "back()", x, x.back(), 5);
        x.mark();
        x.undo();
        check.due(22, "vertices", x.many(0), 0);
        check.due(22, "back() over an undo()", x, x.back(), 0, 0);
        check.due(22, "vertices", x.many(0), 2);
        check.due(22, "acts as at the mark", x.many(3), 1);
        x.mark();
        for (int i = 0; i < 20; i++) {
            x.take(0, 1);
            x.drop(0);
        }
        check.due(22, "back() over many acts", x, x.back(), 0, 0);
        check.due(22, "acts as at the mark", x.many(3), 1);
    }

    private static String all(GluedWords x) {
        StringBuilder told = new StringBuilder();
        for (int what = 0; what < 7; what++) {
            told.append(x.many(what)).append(' ');
        }
        for (int w = 0; w < x.many(2); w++) {
            told.append(Check.told(x, w));
        }
        return told.toString();
    }

    private static void refusedChangesNothing() {
        GluedWords x = full();
        String before = all(x);
        x.take(0, 0);
        x.times(0, 0);
        x.turned(0);
        x.power(0, 2);
        x.core(0);
        x.spell(0, 0, 0);
        x.drop(10);
        x.form(10);
        x.load(5);
        Check.load(x, "vertex");
        check.dueText(4, "nothing changed", all(x), before);
        x.mark();
        x.mark();
        x.mark();
        before = all(x);
        x.mark();
        check.dueText(21, "nothing changed", all(x), before);
    }
}
