import java.lang.reflect.Method;
import java.lang.reflect.Modifier;
import java.nio.file.DirectoryStream;
import java.nio.file.Files;
import java.nio.file.Path;
import java.util.ArrayList;
import java.util.List;
import java.util.Set;
import java.util.TreeSet;
import java.util.regex.Matcher;
import java.util.regex.Pattern;

/** README.md: its calls answer as it says, it leaves no call out, and its tables are in the document's words. */
public final class ReadmeTest {
    private static final Path README = Path.of("README.md");
    private static final Path DOCUMENT = Path.of("../shared/DOC.md");
    private static final Path TESTS = Path.of("src/test/java");
    private static final Pattern ANSWER = Pattern.compile("(?m)^(x\\..*// )(NONE|-?\\d+)");
    private static final List<String> wrong = new ArrayList<>();

    public static void main(String[] args) throws Exception {
        String page = Files.readString(README);
        Example example = new Example(page);
        wrong.addAll(example.wrong());
        leavesNoCallOut(page, example);
        feedsItsText(page, example);
        feedsByItsOwnCode(page, example);
        if (wrong.isEmpty()) {
            findsEachWrongAnswer(page);
        }
        if (Files.exists(DOCUMENT)) {
            isInTheDocumentsWords(page, Files.readString(DOCUMENT));
        }
        namesEachTest(page);
        for (String line : wrong) {
            System.out.println("README.md: " + line);
        }
        System.out.println(example.size() + " calls of README.md made, " + wrong.size() + " wrong");
        if (!wrong.isEmpty()) {
            System.exit(1);
        }
    }

    private static void check(boolean holds, String what) {
        if (!holds) {
            wrong.add(what);
        }
    }

    private static void leavesNoCallOut(String page, Example example) {
        Set<String> face = new TreeSet<>();
        for (Method method : GluedWords.class.getDeclaredMethods()) {
            if (Modifier.isPublic(method.getModifiers())) {
                face.add(method.getName());
            }
        }
        check(example.names().equals(face), "the run's calls are " + example.names() + ", the face is " + face);
        for (String name : face) {
            check(page.contains("| `" + name + "("), "no row for " + name + "()");
        }
        Matcher rows = Pattern.compile("(?m)^\\| `(\\w+)\\(").matcher(page);
        while (rows.find()) {
            check(face.contains(rows.group(1)) || rows.group(1).equals("GluedWords"), "a row for " + rows.group(1) + "()");
        }
    }

    private static void feedsItsText(String page, Example example) {
        List<String> texts = Example.blocks(page, "text");
        check(!texts.isEmpty() && texts.get(0).stripTrailing().equals(example.firstText()),
                "the text that is shown is not the one that is fed: " + example.firstText());
    }

    /** The page's code for feeding a text stands in this file, too, and is used here. */
    private static void feedsByItsOwnCode(String page, Example example) throws Exception {
        String source = Files.readString(TESTS.resolve("ReadmeTest.java"));
        int seen = 0;
        for (String block : Example.blocks(page, "java")) {
            if (block.startsWith("static ")) {
                seen++;
                check(source.contains(block.stripTrailing().indent(4).replaceAll("(?m)^ +$", "")), "code that is not tried: " + block);
            }
        }
        check(seen > 0, "no code that feeds a text");
        String text = example.firstText();
        for (int size = 0; size <= 21; size++) {
            GluedWords x = new GluedWords();
            check(feedText(x, text.substring(0, size)) == size, "feedText() of " + size + " bytes");
            check(x.feed(0, 0, 0, 0, 0) == (size + 19) / 20 * 20 + 20, "the tape behind feedText() of " + size + " bytes");
        }
        GluedWords x = new GluedWords();
        check(x.load(feedText(x, text)) == 3 && x.status() == 0, "the text by feedText()");
        for (int word = 0; word < 3; word++) {
            check(Check.told(x, word).equals(Check.told(Check.made(text), word)), "word " + word + " by feedText()");
        }
    }

    static int feedText(GluedWords x, String text) {
        for (int i = 0; i < text.length(); i += 20) {
            x.feed(four(text, i), four(text, i + 4), four(text, i + 8), four(text, i + 12), four(text, i + 16));
        }
        return text.length();
    }

    static int four(String text, int from) {
        int sum = 0;
        for (int i = from; i < from + 4; i++) {
            sum = sum << 8 | (i < text.length() ? text.charAt(i) & 255 : 0);
        }
        return sum;
    }

    /** This test's own edge: a page that says another answer, at whichever call, is wrong. */
    private static void findsEachWrongAnswer(String page) throws Exception {
        Matcher answers = ANSWER.matcher(page);
        int seen = 0;
        while (answers.find()) {
            seen++;
            String other = answers.group(2).equals("NONE") ? "-1" : String.valueOf(Long.parseLong(answers.group(2)) + 1);
            String changed = page.substring(0, answers.start(2)) + other + page.substring(answers.end(2));
            check(new Example(changed).wrong().size() == 1, "another answer is not found: " + answers.group());
        }
        check(seen == new Example(page).size(), "answers that were changed: " + seen);
        check(!new Example("").wrong().isEmpty(), "an empty page is not wrong");
        check(!new Example(page.replaceFirst("// 20:", "//:")).wrong().isEmpty(), "a call without an answer is not found");
        check(!new Example(page.replaceFirst("0x76657274", "0x76657275")).wrong().isEmpty(), "another byte is not found");
    }

    /** Rows of tables that begin with a call or a number. */
    private static void isInTheDocumentsWords(String page, String document) {
        String said = document.replaceAll("\\s+", " ");
        Matcher rows = Pattern.compile("(?m)^\\| (?:`(\\w+)\\(([^)]*)\\)`|(\\d)) \\| (.*) \\|$").matcher(page);
        int seen = 0;
        while (rows.find()) {
            seen++;
            String name = rows.group(1);
            if (name == null) {
                check(said.contains(rows.group(3) + " " + rows.group(4)), "not in the document: " + rows.group());
                continue;
            }
            String takes = rows.group(2).isEmpty() ? "" : "int " + rows.group(2).replace(", ", ", int ");
            check(said.contains(name + "(" + takes + ")`: " + rows.group(4) + " ##"), "not in the document: " + rows.group());
        }
        check(seen == 50 + 8 + 6, "rows in the document's words: " + seen);
    }

    private static void namesEachTest(String page) throws Exception {
        check(page.contains(".ci/run"), "it does not say how to run the tests");
        Set<String> there = new TreeSet<>();
        try (DirectoryStream<Path> files = Files.newDirectoryStream(TESTS, "*Test.java")) {
            for (Path file : files) {
                there.add(file.getFileName().toString().replace(".java", ""));
            }
        }
        Set<String> named = new TreeSet<>();
        Matcher names = Pattern.compile("`(\\w+Test)`").matcher(page);
        while (names.find()) {
            named.add(names.group(1));
        }
        check(named.equals(there), "the tests are " + there + ", it names " + named);
    }
}
