import java.lang.reflect.Method;
import java.nio.charset.StandardCharsets;
import java.util.ArrayList;
import java.util.List;
import java.util.Set;
import java.util.TreeSet;
import java.util.regex.Matcher;
import java.util.regex.Pattern;

/** The run of calls in a page's java blocks, each with its answer behind it, made on one object. */
final class Example {
    private static final String MADE = "GluedWords x = new GluedWords();";
    private static final Pattern CALL = Pattern.compile("x\\.(\\w+)\\(([^)]*)\\); +// (NONE|-?\\d+)(?:: (.*))?");
    private static final Pattern LINE = Pattern.compile("\\bword [^;\"]*;");
    private static final Pattern QUOTED = Pattern.compile("\"(.*)\"");

    record Call(String line, String name, int[] args, long answer, String why) {
    }

    private final List<Call> calls = new ArrayList<>();
    private final List<String> wrong = new ArrayList<>();

    /** What stands between the fences of one kind. */
    static List<String> blocks(String page, String kind) {
        List<String> found = new ArrayList<>();
        Matcher fences = Pattern.compile("(?ms)^```(\\w+)\n(.*?)^```$").matcher(page);
        while (fences.find()) {
            if (fences.group(1).equals(kind)) {
                found.add(fences.group(2));
            }
        }
        return found;
    }

    Example(String page) {
        boolean isMade = false;
        for (String block : blocks(page, "java")) {
            for (String line : block.startsWith("static ") ? List.<String>of() : block.lines().toList()) {
                if (line.equals(MADE) && !isMade) {
                    isMade = true;
                } else {
                    read(line, isMade);
                }
            }
        }
        if (calls.isEmpty()) {
            wrong.add("the page has no call");
        }
        if (calls.size() > 512) {
            wrong.add("an object is used for at most 512 calls, the page has " + calls.size());
        }
    }

    private void read(String line, boolean isMade) {
        Matcher call = CALL.matcher(line);
        if (!isMade || !call.matches()) {
            wrong.add("no call with its answer on the object of the page: " + line);
            return;
        }
        String[] parts = call.group(2).isEmpty() ? new String[0] : call.group(2).split(", ");
        int[] args = new int[parts.length];
        for (int i = 0; i < parts.length; i++) {
            args[i] = Long.decode(parts[i]).intValue();
        }
        long answer = call.group(3).equals("NONE") ? GluedWords.NONE : Long.parseLong(call.group(3));
        calls.add(new Call(line, call.group(1), args, answer, call.group(4) == null ? "" : call.group(4)));
    }

    Set<String> names() {
        Set<String> names = new TreeSet<>();
        for (Call call : calls) {
            names.add(call.name);
        }
        return names;
    }

    int size() {
        return calls.size();
    }

    /** Every call, and what is told beside its answer. */
    List<String> wrong() throws Exception {
        List<String> all = new ArrayList<>(wrong);
        GluedWords x = new GluedWords();
        for (int i = 0; i < calls.size(); i++) {
            Call call = calls.get(i);
            long got = make(x, call);
            if (got != call.answer) {
                all.add("answered " + got + ": " + call.line);
            } else if (call.line.contains("// NONE") != (got == GluedWords.NONE && isRefused(i))) {
                all.add("NONE and -1 are not the same: " + call.line);
            } else if (!isToldSo(i)) {
                all.add("what it says of a text does not hold: " + call.line);
            }
        }
        return all;
    }

    private static long make(GluedWords x, Call call) throws Exception {
        for (Method method : GluedWords.class.getMethods()) {
            if (method.getName().equals(call.name) && method.getParameterCount() == call.args.length
                    && method.getDeclaringClass() == GluedWords.class) {
                Object[] args = new Object[call.args.length];
                for (int i = 0; i < args.length; i++) {
                    args[i] = call.args[i];
                }
                return ((Number) method.invoke(x, args)).longValue();
            }
        }
        throw new IllegalStateException("no such call: " + call.line);
    }

    /** Another object with the first calls made on it: what is asked of it does not change the run's own. */
    private GluedWords behind(int count) throws Exception {
        GluedWords x = new GluedWords();
        for (int i = 0; i < count; i++) {
            make(x, calls.get(i));
        }
        return x;
    }

    private boolean isRefused(int i) throws Exception {
        return behind(i + 1).status() != 0;
    }

    private boolean isToldSo(int i) throws Exception {
        Call call = calls.get(i);
        Matcher quoted = QUOTED.matcher(call.why);
        if (call.name.equals("feed")) {
            return quoted.find() && quoted.group(1).replace("\\n", "\n").equals(fed(call));
        }
        if (call.name.equals("tell")) {
            return !quoted.find() || quoted.group(1).equals(Check.told(behind(i), call.args[0]));
        }
        Matcher line = LINE.matcher(call.why);
        return !line.find() || line.group().equals(Check.told(behind(i + 1), (int) call.answer));
    }

    private static String fed(Call call) {
        byte[] bytes = new byte[20];
        int size = 0;
        for (int i = 0; i < bytes.length; i++) {
            bytes[i] = (byte) (call.args[i / 4] >> 24 - i % 4 * 8);
            size = bytes[i] == 0 ? size : i + 1;
        }
        return new String(bytes, 0, size, StandardCharsets.ISO_8859_1);
    }

    /** The bytes that the first load() of the run reads. */
    String firstText() {
        StringBuilder tape = new StringBuilder();
        for (Call call : calls) {
            if (call.name.equals("feed")) {
                tape.append(fed(call));
            } else if (call.name.equals("load")) {
                return tape.substring(0, Math.min(tape.length(), call.args[0]));
            }
        }
        return "";
    }
}
