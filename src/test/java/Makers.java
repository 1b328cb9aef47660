import java.nio.charset.StandardCharsets;

/** Objects in a state of their own, made the same way each time. */
final class Makers {
    /** Two groups, of order 4 and 6, with 2 of the first and 3 of the second as one. */
    static final String TWO = "vertex 4;vertex 6;edge 0 2 1 3;";
    /** As many forms as there can be: a step has 720 places to go to. */
    static final String WIDE = "vertex 60;" + "edge 0 60 0 60;".repeat(6);
    static final long MOST_TOLD = 1_000_000_000_000L;

    private Makers() {
    }

    static GluedWords bare() {
        return new GluedWords();
    }

    /** Something of all: acts, a mark, OUT, a fault that is told, a text on the tape. */
    static GluedWords busy() {
        GluedWords x = Check.made(TWO + "word 0 1 > 0 1 < 0;word 0 > 0;word 0 2;word 1;");
        x.take(0, 3);
        x.mark();
        x.take(1, 5);
        x.tell(0);
        Check.load(x, "vertex 0;");
        Check.feed(x, "vertex 5;word 0 4;  ".getBytes(StandardCharsets.ISO_8859_1));
        return x;
    }

    /** The same with all ten words; 0 is a loop, 1 is none. */
    static GluedWords full() {
        GluedWords x = busy();
        for (int i = 0; i < 4; i++) {
            x.take(1, i);
        }
        return x;
    }

    /** A loop of 24 steps with all ten words kept. */
    static GluedWords fullAndLong() {
        return Check.made("vertex 1;edge 0 1 0 1;" + "word 0;".repeat(9) + "word 0" + " > 0".repeat(24) + ";");
    }

    /** Word 0 is a loop of 24 steps, 1 of one step, 2 that one turned. */
    static GluedWords longest() {
        return Check.made("vertex 1;edge 0 1 0 1;word 0" + " > 0".repeat(24) + ";word 0 > 0;word 0 < 0;");
    }

    /** All three marks. */
    static GluedWords marked() {
        GluedWords x = busy();
        x.mark();
        x.take(0, 1);
        x.mark();
        return x;
    }
}
