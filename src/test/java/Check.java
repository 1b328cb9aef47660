import java.nio.charset.StandardCharsets;

/** What the tests share: texts come in by feed() and load(), and wrong answers are printed and counted. */
final class Check {
    private int wrong = 0;
    private int asked = 0;

    void due(int promise, String call, long got, long want) {
        asked++;
        if (got != want) {
            wrong++;
            System.out.println("promise " + promise + ": " + call + " answered " + got + ", due is " + want);
        }
    }

    /** The answer and the STATUS behind it. */
    void due(int promise, String call, GluedWords x, long got, long want, int status) {
        due(promise, call, got, want);
        due(promise, "status() behind " + call, x.status(), status);
    }

    /** NONE with a STATUS. */
    void none(int promise, String call, GluedWords x, long got, int status) {
        due(promise, call, x, got, GluedWords.NONE, status);
    }

    void end() {
        System.out.println(asked + " answers looked at, " + wrong + " wrong");
        if (wrong != 0) {
            System.exit(1);
        }
    }

    static int feed(GluedWords x, byte[] bytes) {
        int answer = GluedWords.NONE;
        for (int i = 0; i < bytes.length; i += 20) {
            answer = x.feed(four(bytes, i), four(bytes, i + 4), four(bytes, i + 8), four(bytes, i + 12), four(bytes, i + 16));
        }
        return answer;
    }

    static int four(byte[] bytes, int from) {
        int sum = 0;
        for (int i = from; i < from + 4; i++) {
            sum = sum << 8 | (i < bytes.length ? bytes[i] & 255 : 0);
        }
        return sum;
    }

    static int load(GluedWords x, String text) {
        byte[] bytes = text.getBytes(StandardCharsets.ISO_8859_1);
        feed(x, bytes);
        return x.load(bytes.length);
    }

    static GluedWords made(String text) {
        GluedWords x = new GluedWords();
        int words = load(x, text);
        if (x.status() != 0) {
            throw new IllegalStateException("a test's own text has a fault: " + text + " " + words
                    + " fault " + x.fault(0) + " at " + x.fault(1));
        }
        return x;
    }

    /** A kept word as tell() and out() tell it. */
    static String told(GluedWords x, int word) {
        int size = x.tell(word);
        StringBuilder all = new StringBuilder();
        for (int i = 0; i < size; i++) {
            all.append((char) x.out(i));
        }
        return all.toString();
    }

    void dueText(int promise, String call, String got, String want) {
        asked++;
        if (!got.equals(want)) {
            wrong++;
            System.out.println("promise " + promise + ": " + call + " answered '" + got + "', due is '" + want + "'");
        }
    }
}
