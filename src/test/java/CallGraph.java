import java.io.PrintWriter;
import java.io.StringWriter;
import java.util.HashMap;
import java.util.HashSet;
import java.util.Map;
import java.util.Set;
import java.util.regex.Matcher;
import java.util.regex.Pattern;
import java.util.spi.ToolProvider;

/** Which method calls which, read from javap's listing; methods of one name count as one. */
final class CallGraph {
    private static final Pattern METHOD = Pattern.compile("^  (?:[^ (]+ )*([^ (]+)\\(.*\\);$");
    private static final Pattern CALL = Pattern.compile("// (?:Interface)?Method ([^:]+):");

    private final Map<String, Set<String>> calls = new HashMap<>();

    CallGraph(Class<?> first) {
        add(first);
    }

    void add(Class<?> c) {
        StringWriter listing = new StringWriter();
        ToolProvider javap = ToolProvider.findFirst("javap").orElseThrow();
        PrintWriter to = new PrintWriter(listing);
        javap.run(to, to, "-c", "-p", "-cp", System.getProperty("java.class.path"), c.getName());
        String at = "";
        for (String line : listing.toString().split("\n")) {
            Matcher method = METHOD.matcher(line);
            if (method.matches()) {
                String name = method.group(1);
                at = c.getName() + "." + (name.equals(c.getName()) ? "<init>" : name);
                calls.computeIfAbsent(at, k -> new HashSet<>());
            }
            Matcher call = CALL.matcher(line);
            if (call.find() && !at.isEmpty()) {
                String name = call.group(1).replace("\"", "");
                calls.get(at).add(name.contains(".") ? name : c.getName() + "." + name);
            }
        }
    }

    /** A call that comes back to itself counts as very deep. */
    int depth(String method) {
        return depth(method, new HashSet<>());
    }

    private int depth(String method, Set<String> open) {
        if (!open.add(method)) {
            return 1000;
        }
        int most = 0;
        for (String next : calls.getOrDefault(method, Set.of())) {
            most = Math.max(most, depth(next, open));
        }
        open.remove(method);
        return most + 1;
    }
}
