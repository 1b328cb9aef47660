import java.lang.reflect.Constructor;
import java.lang.reflect.Field;
import java.lang.reflect.Method;
import java.lang.reflect.Modifier;
import java.nio.file.Files;
import java.nio.file.Path;
import java.util.ArrayList;
import java.util.List;
import java.util.Set;
import java.util.TreeSet;
import java.util.regex.Matcher;
import java.util.regex.Pattern;

/** The public face of the document, and of LANGUAGE.md what a test can see. */
public final class FaceTest {
    private static final String FACE = """
            int status(); int feed(int,int,int,int,int); int load(int); int fault(int); int many(int);
            int order(int); int edge(int,int); int word(int,int); int number(int,int); int step(int,int);
            int take(int,int); int form(int); int times(int,int); int turned(int); int power(int,int);
            int core(int); int spell(int,int,int); int drop(int); int undo(); int mark(); int back();
            int alike(int,int); int steps(int); int length(int); int orderOf(int); int kin(int,int);
            int kinBy(int,int,int); int kins(int); int net(int,int); int central(int,int); int centre(int);
            int having(int,int); int root(int); int swaps(int,int); int alikes(int); int twin(int);
            int apart(int,int); int moves(int,int); int way(int,int,int); long holds(int,int); int axis(int,int);
            long ball(int,int); long sphere(int,int); long listed(int); int near(int,int); int meet(int);
            int tell(int); int out(int); int chi(int);""";
    private static final Path SOURCE = Path.of("src/main/java/GluedWords.java");
    private static final Path DOCUMENT = Path.of("../shared/DOC.md");
    private static final List<String> wrong = new ArrayList<>();

    public static void main(String[] args) throws Exception {
        face();
        documentsFace();
        members(GluedWords.class);
        for (Class<?> inner : GluedWords.class.getDeclaredClasses()) {
            members(inner);
        }
        source();
        depth();
        for (String line : wrong) {
            System.out.println(line);
        }
        System.out.println("the face and the language looked at, " + wrong.size() + " wrong");
        if (!wrong.isEmpty()) {
            System.exit(1);
        }
    }

    private static void check(boolean holds, String what) {
        if (!holds) {
            wrong.add(what);
        }
    }

    private static void face() {
        Set<String> want = new TreeSet<>();
        for (String part : FACE.split(";")) {
            want.add(part.strip());
        }
        Set<String> got = new TreeSet<>();
        for (Method m : GluedWords.class.getDeclaredMethods()) {
            if (!Modifier.isPrivate(m.getModifiers())) {
                check(Modifier.isPublic(m.getModifiers()) && !Modifier.isStatic(m.getModifiers()), "not public: " + m);
                StringBuilder told = new StringBuilder(m.getReturnType() + " " + m.getName() + "(");
                for (Class<?> p : m.getParameterTypes()) {
                    told.append(told.toString().endsWith("(") ? "" : ",").append(p);
                }
                got.add(told.append(")").toString());
            }
        }
        check(got.equals(want), "the face is " + got);
        check(want.size() == 49, "calls in the face: " + want.size());
        check(Modifier.isFinal(GluedWords.class.getModifiers()) && Modifier.isPublic(GluedWords.class.getModifiers()), "public final");
        Constructor<?>[] made = GluedWords.class.getDeclaredConstructors();
        check(made.length == 1 && Modifier.isPublic(made[0].getModifiers()) && made[0].getParameterCount() == 0, "constructor");
        for (Field f : GluedWords.class.getDeclaredFields()) {
            check(Modifier.isPrivate(f.getModifiers()) || f.toString().equals("public static final int GluedWords.NONE"),
                    "a field that is not private: " + f);
        }
        check(GluedWords.NONE == -1, "NONE is " + GluedWords.NONE);
    }

    /** The document's own list of members, word for word: each is there, and no other is to be seen from outside. */
    private static void documentsFace() throws Exception {
        if (!Files.exists(DOCUMENT)) {
            System.out.println(DOCUMENT + " is not here: the face is compared with the one in this test alone");
            return;
        }
        String document = Files.readString(DOCUMENT);
        int begin = document.indexOf("public final class GluedWords {");
        Set<String> want = new TreeSet<>(document.substring(begin, document.indexOf("```", begin)).lines().map(String::strip).toList());
        Set<String> got = new TreeSet<>(Set.of("public final class GluedWords {", "}"));
        Matcher members = Pattern.compile("(?m)^ {4}(?!private )([^\\s/*}].*?)(;| \\{)$").matcher(Files.readString(SOURCE));
        while (members.find()) {
            got.add(members.group(1) + ";");
        }
        check(want.size() == 53, "members in the document: " + want);
        check(got.equals(want), "the document's members are " + want + ", the class has " + got);
    }

    private static void members(Class<?> c) {
        Set<String> names = new TreeSet<>();
        for (Method m : GluedWords.class.getDeclaredMethods()) {
            if (Modifier.isPublic(m.getModifiers())) {
                names.add(m.getName());
            }
        }
        int fields = 0;
        for (Field f : c.getDeclaredFields()) {
            boolean isStatic = Modifier.isStatic(f.getModifiers());
            check(!isStatic || Modifier.isFinal(f.getModifiers()), "static and not final: " + f);
            fields += isStatic ? 0 : 1;
        }
        check(fields <= 20, "fields of " + c + ": " + fields);
        for (Method m : c.getDeclaredMethods()) {
            check(m.getParameterCount() <= 7, "parameters: " + m);
            check(c == GluedWords.class && Modifier.isPublic(m.getModifiers()) || !names.contains(m.getName()), "a name of the face: " + m);
        }
        check(c == GluedWords.class || Modifier.isStatic(c.getModifiers()), "not static: " + c);
        check(GluedWords.class.getDeclaredClasses().length < 12, "classes");
    }

    private static void source() throws Exception {
        String source = Files.readString(SOURCE);
        String code = source.replaceAll("(?s)/\\*.*?\\*/", "").replaceAll("//[^\n]*", "");
        for (String word : new String[] {"throw", "throws", "try", "catch", "synchronized", "assert", "package", "native",
            "volatile", "finally", "protected", "goto", "float", "double", "Exact", "hashCode", "toString", "Object"}) {
            check(!Pattern.compile("\\b" + word + "\\b").matcher(code).find(), "the source has " + word);
        }
        check(!code.contains("->") && !code.contains("::"), "a lambda or a method reference");
        check(!code.contains("while (true)") && !code.contains("for (;;)"), "a loop without an end");
        Matcher imports = Pattern.compile("import ([^;]+);").matcher(code);
        while (imports.find()) {
            check(imports.group(1).equals("java.util.Arrays"), "import of " + imports.group(1));
        }
        for (char c : source.toCharArray()) {
            check(c == 10 || c >= 32 && c < 127, "a sign in the source: " + (int) c);
        }
        Matcher methods = Pattern.compile("(?ms)^( {4}| {8})[^\\s/*][^\n;]*\\) \\{$.*?^\\1\\}$").matcher(source);
        int seen = 0;
        while (methods.find()) {
            seen++;
            long lines = methods.group().lines().count();
            check(lines <= 60, lines + " lines: " + methods.group().lines().findFirst().orElse(""));
        }
        check(seen > 100, "methods seen in the source: " + seen);
    }

    /** How deep calls go, as javap of the machine at hand tells them; no call comes back to itself. */
    private static void depth() throws Exception {
        CallGraph graph = new CallGraph(GluedWords.class);
        for (Class<?> inner : GluedWords.class.getDeclaredClasses()) {
            graph.add(inner);
        }
        for (Method m : GluedWords.class.getDeclaredMethods()) {
            int deep = graph.depth("GluedWords." + m.getName());
            check(deep > 0 && deep <= 8, m.getName() + " calls " + deep + " deep");
        }
    }
}
