import java.io.IOException;
import java.nio.charset.StandardCharsets;
import java.nio.file.Files;
import java.nio.file.Path;
import java.util.ArrayList;
import java.util.LinkedHashMap;
import java.util.List;
import java.util.Map;
import java.util.Set;
import java.util.TreeMap;
import java.util.TreeSet;
import java.util.function.Supplier;
import java.util.function.ToLongFunction;
import java.util.regex.Matcher;
import java.util.regex.Pattern;

/**
 * The document, sentence by sentence. A test quotes a sentence, then looks at what it asks for: a quote that
 * the document does not have, one that no answer is looked at for, and a sentence that nobody quotes are wrong.
 */
final class Sentences {
    private static final Path DOCUMENT = Path.of("../shared/DOC.md");
    private static final Pattern STATUSES = Pattern.compile("\\(([1-9](?::[^;)]*)?(?:; [1-9](?::[^;)]*)?)*)\\)");

    /** What a section says, one blank between its words; and which of its signs have been quoted. */
    private record Section(String text, boolean[] quoted) {
        Section(String text) {
            this(text, new boolean[text.length()]);
        }
    }

    private final Map<String, Section> sections = new LinkedHashMap<>();
    private final Map<String, Set<Integer>> refusals = new TreeMap<>();
    private final List<String> wrong = new ArrayList<>();
    private String at = "";
    private String quote = "";
    private int asked = 0;
    private int askedOfQuote = 1;
    private int quotes = 0;

    Sentences() throws IOException {
        if (!Files.exists(DOCUMENT)) {
            System.out.println(DOCUMENT + " is not here: answers are looked at, quotes are not");
            return;
        }
        String document = Files.readString(DOCUMENT, StandardCharsets.UTF_8);
        cut("use", document, "An object is used", "## The public face");
        cut("part 1", document, "## Terms\n", "==== 2.");
        cut("part 2", document, "==== 2.", "==== 3.");
        cut("part 3", document, "==== 3.", "==== 4.");
        cut("part 4", document, "==== 4.", "Ahead of the calls");
        for (int i = 1; i <= 50; i++) {
            cut(name(i), document, "## Promise " + i + ":", i == 50 ? "## Not promised" : "## Promise " + (i + 1) + ":");
        }
    }

    private static String name(int promise) {
        return "promise " + promise;
    }

    private void cut(String name, String document, String from, String to) {
        int begin = document.indexOf(from);
        int end = document.indexOf(to, begin + 1);
        String text = document.substring(begin, end);
        if (name.startsWith("promise")) {
            // the heading and the call's own line are the face, which FaceTest looks at
            text = text.substring(text.indexOf("`: ") + 3);
        } else if (text.startsWith("## ") || text.startsWith("==== ")) {
            text = text.substring(from.length());
        }
        sections.put(name, new Section(oneBlank(text.replace("```text", " ").replace("`", ""))));
    }

    private static String oneBlank(String text) {
        return text.strip().replaceAll("\\s+", " ");
    }

    // ---- quotes

    void section(String name) {
        closeQuote();
        if (!sections.isEmpty() && !sections.containsKey(name)) {
            wrong.add("no such section: " + name);
        }
        at = name;
        quote = name;
        askedOfQuote = 1;
    }

    void promise(int promise) {
        section(name(promise));
    }

    void says(String sentence) {
        closeQuote();
        quote = oneBlank(sentence);
        askedOfQuote = 0;
        quotes++;
        if (!sections.containsKey(at)) {
            return;
        }
        Section section = sections.get(at);
        int place = section.text.indexOf(quote);
        if (place < 0) {
            wrong.add(at + " does not say: " + quote);
            return;
        }
        for (int i = place; i < place + quote.length(); i++) {
            section.quoted[i] = true;
        }
    }

    private void closeQuote() {
        if (askedOfQuote == 0) {
            wrong.add(at + ": nothing is looked at for: " + quote);
        }
    }

    // ---- answers

    void due(String call, long got, long want) {
        asked++;
        askedOfQuote++;
        if (got != want) {
            wrong.add(at + ", '" + quote + "': " + call + " answered " + got + ", due is " + want);
        }
    }

    /** An answer with STATUS 0. */
    void good(String call, GluedWords x, long got, long want) {
        due(call, got, want);
        due("status() behind " + call, x.status(), 0);
    }

    /** NONE with another STATUS. */
    void none(String call, GluedWords x, long got, int status) {
        due(call, got, GluedWords.NONE);
        due("status() behind " + call, x.status(), status);
    }

    /** A kept word, as a line of a text tells it. */
    void line(GluedWords x, int word, String want) {
        asked++;
        askedOfQuote++;
        String got = lineOf(x, word);
        if (!got.equals(want)) {
            wrong.add(at + ", '" + quote + "': word " + word + " is '" + got + "', due is '" + want + "'");
        }
    }

    /** A line of a text that is taken to its form. */
    void form(String graph, String line, String want) {
        GluedWords x = Check.made(graph + line);
        x.form(0);
        line(x, 0, want);
    }

    /** A text without a FAULT, and how many words it has. */
    GluedWords sound(String text, int words) {
        GluedWords x = new GluedWords();
        good("load of '" + text + "'", x, Check.load(x, text), words);
        due("fault(0) of '" + text + "'", x.fault(0), 0);
        due("fault(1) of '" + text + "'", x.fault(1), -1);
        due("fault(2) of '" + text + "'", x.fault(2), -1);
        return x;
    }

    void fault(String text, int kind, int place, int line) {
        GluedWords x = new GluedWords();
        none("load of '" + text + "'", x, Check.load(x, text), 9);
        due("fault(0) of '" + text + "'", x.fault(0), kind);
        due("fault(1) of '" + text + "'", x.fault(1), place);
        due("fault(2) of '" + text + "'", x.fault(2), line);
        due("vertices behind '" + text + "'", x.many(0), 0);
    }

    /** Of two objects that were made alike one refuses a call; what they answer from then on is the same. */
    void refused(Supplier<GluedWords> maker, String told, ToLongFunction<GluedWords> call, int status) {
        GluedWords x = maker.get();
        none(told, x, call.applyAsLong(x), status);
        refusals.computeIfAbsent(at, k -> new TreeSet<>()).add(status);
        String got = allOf(x, status != 9);
        String want = allOf(maker.get(), status != 9);
        asked++;
        if (!got.equals(want)) {
            wrong.add(at + ": " + told + " with STATUS " + status + " left\n" + got + "\nwhere there was\n" + want);
        }
    }

    // ---- all that can be seen of an object, in less than 400 calls; it is of no more use behind that

    private static String lineOf(GluedWords x, int word) {
        StringBuilder all = new StringBuilder("word ").append(x.word(word, 0));
        all.append(' ').append(x.number(word, 0));
        int size = x.word(word, 2);
        for (int i = 0; i < size; i++) {
            int step = x.step(word, i);
            all.append(step % 2 == 0 ? " > " : " < ").append(step / 2).append(' ').append(x.number(word, i + 1));
        }
        return all.append(';').toString();
    }

    private static void kept(GluedWords x, StringBuilder all) {
        for (int what = 0; what < 7; what++) {
            all.append(x.many(what)).append(' ');
        }
        for (int v = 0; v < x.many(0); v++) {
            all.append("vertex ").append(x.order(v)).append(';');
        }
        for (int e = 0; e < x.many(1); e++) {
            all.append("edge ").append(x.edge(e, 0)).append(' ').append(x.edge(e, 1));
            all.append(' ').append(x.edge(e, 2)).append(' ').append(x.edge(e, 3)).append(';');
        }
        int words = x.many(2);
        for (int w = 0; w < words; w++) {
            all.append(lineOf(x, w));
        }
        all.append('\n');
    }

    /** The tape and what fault() tells may differ behind a load() with 9. */
    private static String allOf(GluedWords x, boolean withTape) {
        StringBuilder all = new StringBuilder();
        for (int i = 0, b = x.out(0); b >= 0 && i < 40; i++, b = x.out(i)) {
            all.append((char) b);
        }
        all.append('\n');
        kept(x, all);
        if (withTape) {
            all.append(x.fault(0)).append(' ').append(x.fault(1)).append(' ').append(x.fault(2)).append('\n');
            int size = x.feed(0x20202020, 0x20202020, 0x20202020, 0x20202020, 0x20202020);
            all.append(size).append(' ').append(x.load(size)).append(' ').append(x.fault(0)).append('\n');
            kept(x, all);
        }
        for (int i = 0; i < 3; i++) {
            all.append("undo ").append(x.undo()).append(' ');
        }
        kept(x, all);
        for (int left = x.back(); left >= 0; left = x.back()) {
            all.append("back ").append(left).append(' ');
            kept(x, all);
        }
        return all.toString();
    }

    // ---- the end

    void end() {
        closeQuote();
        for (Map.Entry<String, Section> entry : sections.entrySet()) {
            lookForUnquoted(entry.getKey(), entry.getValue());
        }
        for (int i = 1; i <= 50 && !sections.isEmpty(); i++) {
            Set<Integer> seen = refusals.getOrDefault(name(i), Set.of());
            Set<Integer> told = statusesIn(sections.get(name(i)).text);
            if (!seen.equals(told)) {
                wrong.add(name(i) + " can have STATUS " + told + ", refused were calls with " + seen);
            }
        }
        for (String line : wrong) {
            System.out.println(line);
        }
        System.out.println(quotes + " sentences, " + asked + " answers looked at, " + wrong.size() + " wrong");
        if (!wrong.isEmpty()) {
            System.exit(1);
        }
    }

    private void lookForUnquoted(String name, Section section) {
        StringBuilder rest = new StringBuilder();
        for (int i = 0; i < section.quoted.length; i++) {
            boolean isGap = section.quoted[i];
            char sign = section.text.charAt(i);
            rest.append(isGap ? ' ' : sign);
        }
        // signs between two quotes tell nothing
        if (rest.chars().anyMatch(Character::isLetterOrDigit)) {
            wrong.add(name + ", nobody quotes: " + oneBlank(rest.toString()));
        }
    }

    /** The numbers in brackets behind a promise: the last such bracket tells them. */
    private static Set<Integer> statusesIn(String promise) {
        Set<Integer> last = Set.of();
        Matcher m = STATUSES.matcher(promise);
        while (m.find()) {
            last = new TreeSet<>();
            for (String part : m.group(1).split("; ")) {
                last.add(part.charAt(0) - '0');
            }
        }
        return last;
    }
}
