/** Promises 1 to 11: a new object, the tape, texts and their faults, what there is. */
public final class StateTest {
    private static final String S = "vertex 4;vertex 6;edge 0 2 1 3;";
    private static final Check check = new Check();

    public static void main(String[] args) {
        newObject();
        statusOfCalls();
        feeds();
        loads();
        loadReplaces();
        soundTexts();
        faults();
        faultsOfSix();
        faultKept();
        many();
        orders();
        edges();
        words();
        numbersAndSteps();
        check.end();
    }

    private static void newObject() {
        GluedWords x = new GluedWords();
        check.due(1, "status()", x.status(), 0);
        for (int what = 0; what <= 6; what++) {
            check.due(1, "many(" + what + ")", x, x.many(what), 0, 0);
        }
        for (int what = -1; what <= 3; what++) {
            check.due(5, "fault(" + what + ")", x.fault(what), -1);
        }
        check.none(1, "undo()", x, x.undo(), 5);
        check.none(1, "back()", x, x.back(), 5);
        check.none(1, "load(1)", x, x.load(1), 1);
        check.none(1, "out(0)", x, x.out(0), 5);
        check.none(1, "order(0)", x, x.order(0), 2);
        check.due(1, "chi(0)", x, x.chi(0), 0, 0);
        check.due(1, "chi(1)", x, x.chi(1), 1, 0);
        check.due(1, "feed()", x.feed(0, 0, 0, 0, 0), 20);
        check.due(1, "NONE", GluedWords.NONE, -1);
    }

    private static void statusOfCalls() {
        GluedWords x = new GluedWords();
        x.order(0);
        check.due(2, "status()", x.status(), 2);
        check.due(2, "status() again", x.status(), 2);
        x.feed(1, 2, 3, 4, 5);
        check.due(2, "status() behind feed()", x.status(), 2);
        x.fault(0);
        check.due(2, "status() behind fault()", x.status(), 2);
        x.fault(9);
        check.due(2, "status() behind fault(9)", x.status(), 2);
        x.many(0);
        check.due(2, "status() behind many(0)", x.status(), 0);
        x.many(-1);
        check.due(2, "status() behind many(-1)", x.status(), 1);
        for (int i = 0; i < 40; i++) {
            x.feed(0, 0, 0, 0, 0);
        }
        check.due(2, "status() behind a feed() too many", x.status(), 1);
    }

    private static void feeds() {
        GluedWords x = new GluedWords();
        int blanks = 0x20202020;
        check.due(3, "feed", x.feed(0x76657274, 0x65782037, 0x3b202020, blanks, blanks), 20);
        for (int i = 2; i <= 35; i++) {
            check.due(3, "feed " + i, x.feed(blanks, blanks, blanks, blanks, blanks), 20 * i);
        }
        check.due(3, "feed 36", x.feed(0x41414141, 0, 0, 0, 0), -1);
        check.due(3, "feed 37", x.feed(0, 0, 0, 0, 0), -1);
        check.none(4, "load(701)", x, x.load(701), 1);
        check.due(4, "load(700)", x, x.load(700), 0, 0);
        check.due(3, "order(0)", x, x.order(0), 7, 0);
        check.due(3, "feed behind load", x.feed(0, 0, 0, 0, 0), 20);
    }

    private static void loads() {
        GluedWords x = new GluedWords();
        check.due(4, "load(0)", x, x.load(0), 0, 0);
        check.due(4, "acts", x.many(3), 1);
        Check.feed(x, "vertex 5;word 0 7;zzz".getBytes());
        check.none(4, "load(-1)", x, x.load(-1), 1);
        check.none(4, "load(41)", x, x.load(41), 1);
        check.due(4, "the tape stays", x.feed(0, 0, 0, 0, 0), 60);
        check.due(4, "load(18)", x, x.load(18), 1, 0);
        check.due(4, "many(2)", x.many(2), 1);
        check.due(4, "number(0, 0)", x.number(0, 0), 2);
        check.none(4, "the tape is empty", x, x.load(1), 1);
        Check.feed(x, "vertex 5;word 1".getBytes());
        check.none(4, "a fault", x, x.load(15), 9);
        check.due(4, "stays", x.many(2), 1);
        check.due(4, "acts stay", x.many(3), 2);
        check.none(4, "the tape is empty behind 9", x, x.load(1), 1);
        check.due(4, "feed", x.feed(0, 0, 0, 0, 0), 20);
    }

    private static void loadReplaces() {
        GluedWords x = Check.made(S + "word 0;word 1;");
        check.due(4, "a second text", x, Check.load(x, "vertex 9;word 0 1;"), 1, 0);
        check.due(4, "vertices", x.many(0), 1);
        check.due(4, "edges", x.many(1), 0);
        check.due(4, "words", x.many(2), 1);
        check.due(4, "order", x.order(0), 9);
        check.due(4, "acts", x.many(3), 2);
        x.undo();
        check.due(4, "vertices, undone", x.many(0), 2);
        check.due(4, "words, undone", x.many(2), 2);
    }

    private static void soundTexts() {
        String[] texts = {"", " ", "\n\n ", "vertex 60;", "vertex 1;", "vertex 004;", "vertex4;", "vertex\n4\n;",
            " vertex  4 ; ", S + "word 0>0<0>0;", S + "word 0 999 > 0 999<0 0;", S + "word 1<0 3\n>0;",
            "vertex 4;edge 0 4 0 4;edge 0 1 0 1;", "vertex 12;vertex 18;edge 0 2 1 3;edge 1 18 0 12;",
            "vertex 1;word 0;vertex 2;edge 0 1 1 2;word 0 > 0 1;"};
        for (String text : texts) {
            GluedWords x = new GluedWords();
            Check.load(x, text);
            check.due(4, "'" + text + "'", x.status(), 0);
            check.due(5, "fault(0) of '" + text + "'", x.fault(0), 0);
            check.due(5, "fault(1) of '" + text + "'", x.fault(1), -1);
            check.due(5, "fault(2) of '" + text + "'", x.fault(2), -1);
            check.due(5, "fault(3) of '" + text + "'", x.fault(3), -1);
        }
    }

    private static void fault(String text, int kind, int place, int line) {
        GluedWords x = new GluedWords();
        check.none(4, "'" + text + "'", x, Check.load(x, text), 9);
        check.due(5, "fault(0) of '" + text + "'", x.fault(0), kind);
        check.due(5, "fault(1) of '" + text + "'", x.fault(1), place);
        check.due(5, "fault(2) of '" + text + "'", x.fault(2), line);
        check.due(5, "fault(3) of '" + text + "'", x.fault(3), -1);
        check.due(5, "fault(-1) of '" + text + "'", x.fault(-1), -1);
        check.due(4, "vertices of '" + text + "'", x.many(0), 0);
    }

    private static void faults() {
        fault("Vertex 4;", 1, 0, 0);
        fault("vertex\t4;", 1, 6, 0);
        fault("`", 1, 0, 0);
        fault("{", 1, 0, 0);
        fault("vertex 4/", 1, 8, 0);
        fault("vertex 4:", 1, 8, 0);
        fault("vertex 4=", 1, 8, 0);
        fault("vertex 4?", 1, 8, 0);
        fault("a", 2, 0, 0);
        fault("zz;", 2, 0, 0);
        fault("wertex 4;", 2, 0, 0);
        fault("vertey 4;", 2, 0, 0);
        fault("vertex 4;idge 0 1 0 1;", 2, 9, 1);
        fault("vertex 4;cord 0;", 2, 9, 1);
        fault("vertex 4;words 0;", 2, 9, 1);
        fault("vertex\r4;", 1, 6, 0);
        fault("vertex 4;\u00e9", 1, 9, 1);
        fault("vertex 4;\u00ff", 1, 9, 1);
        fault("vertex 4;\u0000", 1, 9, 1);
        fault("vertex -4;", 1, 7, 0);
        fault("vertex 1000;", 1, 7, 0);
        fault("vertex 0004;", 1, 7, 0);
        fault("vertex 4;word 0 1234;", 1, 16, 1);
        fault("vertex 4;word 0 1 12345;", 1, 18, 1);
        fault("1234", 1, 0, 0);
        fault("vertex", 2, 6, 0);
        fault("vertex  ", 2, 8, 0);
        fault("vertex 4", 2, 8, 0);
        fault("vertex 4 4;", 2, 9, 0);
        fault("vertex ;", 2, 7, 0);
        fault("vertex vertex;", 2, 7, 0);
        fault("vertexx 4;", 2, 0, 0);
        fault("ver tex 4;", 2, 0, 0);
        fault("vertex 4;;", 2, 9, 1);
        fault(";", 2, 0, 0);
        fault(" 4;", 2, 1, 0);
        fault("> 0;", 2, 0, 0);
        fault("vertex 4;vertexword 0;", 2, 9, 1);
        fault("vertex 4;edge 0 2 0;", 2, 19, 1);
        fault("vertex 4;edge 0 2 0 2", 2, 21, 1);
        fault("vertex 4;edge 0 2 0 2 2;", 2, 22, 1);
        fault("vertex 4;word;", 2, 13, 1);
        fault("vertex 4;word 0 1 2;", 2, 18, 1);
        fault("vertex 4;word 0 >;", 2, 17, 1);
        fault("vertex 4;word 0 > > 0;", 2, 18, 1);
        fault("vertex 4;word 0", 2, 15, 1);
        fault("word 0;", 3, 5, 0);
        fault("edge 0 1 0 1;", 3, 5, 0);
        fault("vertex 4;edge 1 2 0 2;", 3, 14, 1);
        fault("vertex 4;edge 0 2 1 2;vertex 4;", 3, 18, 1);
        fault("vertex 4;word 1;", 3, 14, 1);
        fault("vertex 4;word 0 > 0;edge 0 1 0 1;", 3, 18, 1);
        fault("vertex 4;edge 0 1 0 1;word 0 < 1;", 3, 31, 2);
        fault("vertex 0;", 4, 7, 0);
        fault("vertex 61;", 4, 7, 0);
        fault("vertex 999;", 4, 7, 0);
        fault("vertex 61;A", 4, 7, 0);
        fault("vertex 4;edge 0 0 0 2;", 4, 16, 1);
        fault("vertex 4;edge 0 3 0 2;", 4, 16, 1);
        fault("vertex 4;edge 0 8 0 8;", 4, 16, 1);
        fault("vertex 4;edge 0 2 0 0;", 4, 20, 1);
        fault("vertex 4;edge 0 2 0 3;", 4, 20, 1);
        fault("vertex 4;edge 0 2 0 2;edge 0 4 0 2;", 4, 33, 2);
        fault("vertex 4;vertex 6;edge 0 2 1 2;", 4, 29, 2);
        fault(S + "word 0 < 0;", 5, 40, 3);
        fault(S + "word 0 > 0 > 0;", 5, 44, 3);
        fault(S + "word 1 2 > 0;", 5, 42, 3);
    }

    private static void faultsOfSix() {
        String six = "vertex 1;".repeat(6);
        fault(six + "vertex 1;", 6, 54, 6);
        fault(six + "vertex", 6, 54, 6);
        fault(six + "vertex A", 6, 54, 6);
        fault(six + "edge 0 1 0 1;".repeat(6) + " edge", 6, 133, 12);
        fault("vertex 1;" + "word 0;".repeat(11), 6, 79, 11);
        fault("vertex 1;" + "word 0;".repeat(10) + "\nword zz", 6, 80, 11);
        fault("vertex 1;edge 0 1 0 1;word 0" + ">0".repeat(25) + ";", 6, 76, 2);
        fault("vertex 1;edge 0 1 0 1;word 0" + ">0".repeat(24) + " 7<", 6, 78, 2);
        GluedWords x = new GluedWords();
        Check.load(x, six + "edge 0 1 0 1;".repeat(6) + "word 0 ;".repeat(9) + "word 0" + ">0".repeat(24) + ";");
        check.due(4, "as much as there can be", x, x.many(2), 10, 0);
        check.due(4, "its steps", x.word(9, 2), 24);
        check.due(4, "its edges", x.many(1), 6);
        check.due(4, "its vertices", x.many(0), 6);
    }

    private static void faultKept() {
        GluedWords x = new GluedWords();
        Check.load(x, "vertex 0;");
        x.load(900);
        check.due(5, "fault(0) behind load() with 1", x.fault(0), 4);
        check.due(5, "fault(1) behind load() with 1", x.fault(1), 7);
        Check.load(x, "vertex 1;");
        check.due(5, "fault(0) behind a sound one", x.fault(0), 0);
        Check.load(x, "vertex 1;A");
        check.due(5, "fault(0)", x.fault(0), 1);
        check.due(5, "fault(2)", x.fault(2), 1);
        x.undo();
        check.due(5, "fault(0) behind undo()", x.fault(0), 1);
    }

    private static void many() {
        GluedWords x = Check.made("vertex 4;vertex 6;vertex 2;edge 0 2 1 3;edge 0 4 0 4;word 0;word 1;word 2;");
        x.mark();
        x.mark();
        x.take(0, 0);
        int[] want = {3, 2, 4, 2, 2, 1, 2};
        for (int what = 0; what <= 6; what++) {
            check.due(6, "many(" + what + ")", x, x.many(what), want[what], 0);
        }
        check.none(6, "many(7)", x, x.many(7), 1);
        check.none(6, "many(-1)", x, x.many(-1), 1);
        GluedWords y = Check.made("vertex 1;".repeat(6) + "edge 5 1 4 1;edge 3 1 4 1;edge 3 1 2 1;edge 2 1 1 1;edge 1 1 0 1;edge 0 1 5 1;");
        check.due(6, "circles of a round", y.many(5), 1);
        check.due(6, "parts of a round", y.many(6), 1);
        GluedWords row = Check.made("vertex 1;".repeat(6) + "edge 4 1 5 1;edge 3 1 4 1;edge 2 1 3 1;edge 1 1 2 1;edge 0 1 1 1;");
        check.due(6, "circles of a row", row.many(5), 0);
        check.due(6, "parts of a row", row.many(6), 1);
        GluedWords z = Check.made("vertex 1;".repeat(6) + "edge 5 1 0 1;edge 4 1 1 1;edge 1 1 4 1;edge 4 1 4 1;");
        check.due(6, "circles", z.many(5), 2);
        check.due(6, "parts", z.many(6), 4);
    }

    private static void orders() {
        GluedWords x = Check.made("vertex 4;vertex 60;");
        check.due(7, "order(0)", x, x.order(0), 4, 0);
        check.due(7, "order(1)", x, x.order(1), 60, 0);
        check.none(7, "order(2)", x, x.order(2), 2);
        check.none(7, "order(-1)", x, x.order(-1), 2);
    }

    private static void edges() {
        GluedWords x = Check.made("vertex 12;vertex 18;edge 0 2 1 3;edge 1 9 0 6;");
        int[][] want = {{0, 2, 1, 3, 6}, {1, 9, 0, 6, 2}};
        for (int e = 0; e < 2; e++) {
            for (int what = 0; what < 5; what++) {
                check.due(8, "edge(" + e + ", " + what + ")", x, x.edge(e, what), want[e][what], 0);
            }
        }
        check.none(8, "edge(0, 5)", x, x.edge(0, 5), 1);
        check.none(8, "edge(0, -1)", x, x.edge(0, -1), 1);
        check.none(8, "edge(9, 9)", x, x.edge(9, 9), 1);
        check.none(8, "edge(2, 0)", x, x.edge(2, 0), 2);
        check.none(8, "edge(-1, 0)", x, x.edge(-1, 0), 2);
    }

    private static void words() {
        GluedWords x = Check.made(S + "word 0 1 > 0 1 < 0;word 0 1 > 0 3 < 0 1;word 1 2 < 0 3;word 0 2 > 0 1;"
                + "word 0 > 0 < 0 > 0 < 0 > 0 < 0;");
        int[][] want = {{0, 0, 2, 1, 0}, {0, 0, 2, 0, 1}, {1, 0, 1, 1, 0}, {0, 1, 1, 0, 0}, {0, 0, 6, 0, 3}};
        for (int w = 0; w < want.length; w++) {
            for (int what = 0; what < 5; what++) {
                check.due(9, "word(" + w + ", " + what + ")", x, x.word(w, what), want[w][what], 0);
            }
        }
        check.none(9, "word(0, 5)", x, x.word(0, 5), 1);
        check.none(9, "word(9, -1)", x, x.word(9, -1), 1);
        check.none(9, "word(5, 0)", x, x.word(5, 0), 2);
        check.none(9, "word(-1, 4)", x, x.word(-1, 4), 2);
    }

    private static void numbersAndSteps() {
        GluedWords x = Check.made("vertex 4;vertex 6;edge 0 2 1 3;edge 1 6 0 4;word 0 7 > 0 13 > 1 < 1 5;");
        int[] numbers = {3, 1, 0, 5};
        int[] steps = {0, 2, 3};
        for (int i = 0; i < 4; i++) {
            check.due(10, "number(0, " + i + ")", x, x.number(0, i), numbers[i], 0);
        }
        for (int i = 0; i < 3; i++) {
            check.due(11, "step(0, " + i + ")", x, x.step(0, i), steps[i], 0);
        }
        check.none(10, "number(0, 4)", x, x.number(0, 4), 5);
        check.none(10, "number(0, -1)", x, x.number(0, -1), 1);
        check.none(10, "number(7, -1)", x, x.number(7, -1), 1);
        check.none(10, "number(1, 0)", x, x.number(1, 0), 2);
        check.none(10, "number(-1, 99)", x, x.number(-1, 99), 2);
        check.none(11, "step(0, 3)", x, x.step(0, 3), 5);
        check.none(11, "step(0, -1)", x, x.step(0, -1), 1);
        check.none(11, "step(7, -1)", x, x.step(7, -1), 1);
        check.none(11, "step(1, 0)", x, x.step(1, 0), 2);
        check.none(11, "step(-1, 99)", x, x.step(-1, 99), 2);
        x.take(0, 0);
        check.none(11, "step(1, 0) without steps", x, x.step(1, 0), 5);
    }
}
