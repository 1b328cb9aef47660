import java.lang.reflect.Method;
import java.lang.reflect.Modifier;
import java.nio.charset.StandardCharsets;
import java.util.ArrayList;
import java.util.HashMap;
import java.util.List;
import java.util.Map;
import java.util.Random;

/** Many runs of calls, by fixed seeds, on the class and on the model side by side. */
public final class ModelTest {
    private static final String[] CALLS = {
        "many", "order", "edge", "word", "number", "step", "take", "form", "times", "turned", "power", "core",
        "spell", "drop", "undo", "mark", "back", "alike", "steps", "length", "orderOf", "kin", "kinBy", "kins",
        "net", "central", "centre", "having", "root", "swaps", "alikes", "twin", "apart", "moves", "way", "holds",
        "axis", "ball", "sphere", "listed", "near", "meet", "tell", "out", "chi", "fault", "load", "text"};

    private static final Map<String, Method> CLASS_CALLS = callsOf(GluedWords.class);
    private static final Map<String, Method> MODEL_CALLS = callsOf(Model.class);

    private final Random random;
    private final GluedWords x = new GluedWords();
    private final Model y = new Model();
    private final List<String> log = new ArrayList<>();
    private static int wrong = 0;
    private static final int[] statuses = new int[10];

    private ModelTest(long seed) {
        random = new Random(seed);
    }

    public static void main(String[] args) {
        int runs = args.length > 0 ? Integer.parseInt(args[0]) : 1500;
        int first = args.length > 1 ? Integer.parseInt(args[1]) : 1;
        for (int seed = first; seed < first + runs && wrong < 5; seed++) {
            new ModelTest(seed).run();
        }
        StringBuilder told = new StringBuilder();
        for (int s = 0; s < statuses.length; s++) {
            told.append(" ").append(s).append(":").append(statuses[s]);
        }
        System.out.println(runs + " runs beside the model, " + wrong + " wrong; calls by status" + told);
        if (wrong != 0) {
            System.exit(1);
        }
    }

    private void run() {
        int before = wrong;
        loadText();
        // a run on nothing tells little
        for (int i = 0; i < 5 && x.many(2) + y.many(2) < 2; i++) {
            loadText();
        }
        for (int i = 0; i < 150 && wrong == before; i++) {
            String call = CALLS[random.nextInt(CALLS.length)];
            if (call.equals("text") && random.nextInt(3) > 0 || call.equals("drop") && random.nextInt(2) > 0) {
                continue;
            }
            both(call);
        }
        compareAll(before);
    }

    private void compareAll(int before) {
        for (int w = 0; w < 10 && wrong == before; w++) {
            same("tell", x.tell(w), y.tell(w), w, 0, 0);
            for (int i = 0; i < 200 && wrong == before; i++) {
                same("out", x.out(i), y.out(i), i, 0, 0);
            }
        }
    }

    private int word() {
        return random.nextInt(12) == 0 ? random.nextInt(14) - 2 : random.nextInt(Math.max(1, y.many(2)));
    }

    private int vertex() {
        return random.nextInt(12) == 0 ? random.nextInt(9) - 1 : random.nextInt(Math.max(1, y.many(0)));
    }

    private int small(int most) {
        return random.nextInt(15) == 0 ? random.nextInt(3) - 2 : random.nextInt(most + 1);
    }

    private void both(String call) {
        int kept = y.status();
        int a = 0;
        int b = 0;
        int c = 0;
        switch (call) {
            case "many" -> a = small(7);
            case "order", "centre", "meet" -> a = vertex();
            case "edge" -> {
                a = small(6);
                b = small(5);
            }
            case "word" -> {
                a = word();
                b = small(5);
            }
            case "number", "step", "axis" -> {
                a = word();
                b = small(26);
            }
            case "take", "having" -> {
                a = vertex();
                b = small(70);
            }
            case "central" -> {
                a = vertex();
                b = small(random.nextBoolean() ? 6 : 60);
            }
            case "form", "turned", "core", "drop", "steps", "length", "orderOf", "kins", "root", "alikes", "twin",
                "listed", "tell" -> a = word();
            case "times", "alike", "kin", "swaps", "apart", "moves" -> {
                a = word();
                b = word();
            }
            case "power" -> {
                a = word();
                b = random.nextInt(21) - 10;
            }
            case "spell" -> {
                a = vertex();
                b = small(13);
                c = random.nextInt(3) == 0 ? small(2_000_000_000) : small(500);
            }
            case "kinBy" -> {
                a = word();
                b = word();
                c = small(2);
            }
            case "net" -> {
                a = word();
                b = small(6);
            }
            case "way" -> {
                a = word();
                b = word();
                c = small(20);
            }
            case "holds" -> {
                a = word();
                b = small(13);
            }
            case "ball", "sphere" -> {
                a = vertex();
                b = small(13);
            }
            case "near" -> {
                a = word();
                b = random.nextInt(10) == 0 ? 95 + random.nextInt(10) : small(20);
            }
            case "out" -> a = small(60);
            case "chi", "fault" -> a = small(3);
            case "load" -> a = small(random.nextInt(4) == 0 ? 700 : 0);
            default -> {
            }
        }
        // the model was asked for sizes on the way: its status is set right by the next call that has one
        if (call.equals("fault") || call.equals("text")) {
            y.many(0);
            x.many(0);
        }
        if (call.equals("text")) {
            loadText();
            return;
        }
        long got = answer(x, CLASS_CALLS.get(call), a, b, c);
        same(call, got, answer(y, MODEL_CALLS.get(call), a, b, c), a, b, c);
    }

    private void same(String call, long got, long want, int a, int b, int c) {
        log.add(call + "(" + a + "," + b + "," + c + ") = " + want + " status " + y.status());
        statuses[y.status()]++;
        if (got != want || x.status() != y.status()) {
            wrong++;
            for (String line : log) {
                System.out.println(line);
            }
            System.out.println("the class answered " + got + ", status " + x.status());
        }
    }

    /** The public calls of a class by their names. */
    private static Map<String, Method> callsOf(Class<?> c) {
        Map<String, Method> all = new HashMap<>();
        for (Method m : c.getDeclaredMethods()) {
            if (Modifier.isPublic(m.getModifiers())) {
                all.put(m.getName(), m);
            }
        }
        return all;
    }

    private static long answer(Object x, Method call, int... given) {
        Object[] taken = new Object[call.getParameterCount()];
        for (int i = 0; i < taken.length; i++) {
            taken[i] = given[i];
        }
        try {
            return ((Number) call.invoke(x, taken)).longValue();
        } catch (ReflectiveOperationException e) {
            throw new IllegalStateException(call + " failed", e);
        }
    }

    // ---- texts

    private void loadText() {
        String text = new TextMaker(random).make();
        byte[] bytes = text.getBytes(StandardCharsets.ISO_8859_1);
        boolean feeds = true;
        for (int i = 0; i < bytes.length && feeds; i += 20) {
            int[] f = new int[5];
            for (int j = 0; j < 5; j++) {
                f[j] = Check.four(bytes, i + 4 * j);
            }
            int want = y.feed(f[0], f[1], f[2], f[3], f[4]);
            feeds = want != GluedWords.NONE;
            same("feed " + text, x.feed(f[0], f[1], f[2], f[3], f[4]), want, f[0], f[1], f[2]);
        }
        same("load " + text, x.load(bytes.length), y.load(bytes.length), bytes.length, 0, 0);
        for (int what = -1; what < 4; what++) {
            same("fault", x.fault(what), y.fault(what), what, 0, 0);
        }
    }
}
