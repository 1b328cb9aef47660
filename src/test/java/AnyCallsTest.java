import java.lang.management.ManagementFactory;
import java.lang.reflect.InvocationTargetException;
import java.lang.reflect.Method;
import java.util.ArrayList;
import java.util.List;
import java.util.Random;

/** Any arguments in any state: no call throws, each ends soon, and none makes objects of its own. */
public final class AnyCallsTest {
    private static final int[] EDGES = {0, 1, -1, 2, 9, 10, 11, 12, 13, 24, 25, 59, 60, 61, 99, 100, 700, 701,
        Integer.MAX_VALUE, Integer.MIN_VALUE, Integer.MAX_VALUE - 1, Integer.MIN_VALUE + 1, 1 << 30};
    private static int wrong = 0;

    public static void main(String[] args) throws Exception {
        List<Method> calls = new ArrayList<>();
        for (Method m : GluedWords.class.getMethods()) {
            if (m.getDeclaringClass() == GluedWords.class) {
                calls.add(m);
            }
        }
        calls.sort((a, b) -> a.getName().compareTo(b.getName()));
        for (int seed = 0; seed < 2000 && wrong == 0; seed++) {
            run(calls, new Random(seed));
        }
        room();
        dearest();
        System.out.println(calls.size() + " calls with any arguments, " + wrong + " wrong");
        if (wrong != 0) {
            System.exit(1);
        }
    }

    private static void run(List<Method> calls, Random random) throws Exception {
        GluedWords x = new GluedWords();
        for (int i = 0; i < 512; i++) {
            if (i % 100 == 0) {
                Check.load(x, new TextMaker(random).make());
            }
            Method m = calls.get(random.nextInt(calls.size()));
            Object[] given = new Object[m.getParameterCount()];
            for (int j = 0; j < given.length; j++) {
                given[j] = random.nextInt(3) == 0 ? random.nextInt() : random.nextBoolean()
                        ? EDGES[random.nextInt(EDGES.length)] : random.nextInt(7);
            }
            try {
                long answer = ((Number) m.invoke(x, given)).longValue();
                int status = x.status();
                boolean hasStatus = !m.getName().equals("fault") && !m.getName().equals("feed") && !m.getName().equals("status");
                if (status < 0 || status > 9 || status == 7 || status == 8 || hasStatus && status != 0 && answer != GluedWords.NONE) {
                    wrong++;
                    System.out.println(m.getName() + " answered " + answer + " with status " + status);
                }
            } catch (InvocationTargetException e) {
                wrong++;
                System.out.println(m.getName() + " threw " + e.getCause());
                return;
            }
        }
    }

    private static final String HEAVY = "vertex 60;" + "edge 0 60 0 60;".repeat(3) + "edge 0 1 0 1;".repeat(3)
            + "word 0" + ">3".repeat(24) + ";word 0" + ">3".repeat(24) + " 1;word 0" + ">3".repeat(23) + "<0 1;word 0 1;"
            + "word 0" + ">3".repeat(24) + " 2;word 0" + ">3".repeat(24) + " 3;word 0" + ">3".repeat(24) + " 4;";

    /** All that stays of an object is made with it. */
    private static void room() {
        com.sun.management.ThreadMXBean bean = (com.sun.management.ThreadMXBean) ManagementFactory.getThreadMXBean();
        long thread = Thread.currentThread().getId();
        GluedWords x = Check.made(HEAVY);
        everything(x);
        long before = bean.getThreadAllocatedBytes(thread);
        everything(x);
        long made = bean.getThreadAllocatedBytes(thread) - before;
        // the machine itself may make a little while it counts
        if (made > 2000) {
            wrong++;
            System.out.println("calls made " + made + " bytes");
        }
        before = bean.getThreadAllocatedBytes(thread);
        new GluedWords();
        made = bean.getThreadAllocatedBytes(thread) - before;
        if (made > 200_000) {
            wrong++;
            System.out.println("an object takes " + made + " bytes");
        }
    }

    private static void everything(GluedWords x) {
        for (int w = 0; w < 5; w++) {
            x.kins(w);
            x.root(w);
            x.alikes(w);
            x.near(w, 99);
            x.holds(w, 12);
            x.listed(w);
            x.length(w);
            x.orderOf(w);
            x.twin(w);
            x.tell(w);
            x.axis(w, 7);
            x.moves(w, 0);
            x.swaps(w, 1);
            x.way(w, 1, 0);
            x.form(w);
            x.mark();
            x.take(0, 1);
            x.core(w);
            x.turned(w);
            x.power(3, 2);
            x.times(3, w);
            x.spell(0, 12, 77777);
            x.undo();
            x.back();
            x.drop(7);
        }
        x.ball(0, 12);
        x.sphere(0, 12);
        x.chi(0);
        x.centre(0);
        x.having(0, 60);
        x.many(5);
        x.feed(0x20202020, 0x20202020, 0x20202020, 0x20202020, 0x20202020);
        x.load(0);
        x.undo();
    }

    /** The dearest call, as often as an object is used. */
    private static void dearest() {
        GluedWords x = Check.made(HEAVY);
        long from = System.nanoTime();
        for (int i = 0; i < 512; i++) {
            x.kins(0);
        }
        long seconds = (System.nanoTime() - from) / 1_000_000_000L;
        if (seconds > 20) {
            wrong++;
            System.out.println("512 calls of kins() took " + seconds + " seconds");
        }
    }
}
