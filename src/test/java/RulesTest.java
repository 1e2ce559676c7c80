import java.io.IOException;
import java.io.PrintWriter;
import java.io.StringWriter;
import java.lang.management.ManagementFactory;
import java.lang.reflect.Constructor;
import java.lang.reflect.Executable;
import java.lang.reflect.Field;
import java.lang.reflect.Method;
import java.lang.reflect.Modifier;
import java.nio.file.Files;
import java.nio.file.Path;
import java.util.ArrayList;
import java.util.HashSet;
import java.util.List;
import java.util.Map;
import java.util.Optional;
import java.util.Set;
import java.util.TreeMap;
import java.util.TreeSet;
import java.util.regex.Matcher;
import java.util.regex.Pattern;
import java.util.spi.ToolProvider;

/** The face against the document's, and the rules of the language that a text or a count can show. */
public final class RulesTest {
    private static final Path DOCUMENT = Path.of("..", "shared", "DOC.md");
    private static final Path PROGRAM = Path.of("src", "main", "java", "LoopTables.java");
    private static int wrong = 0;

    private static void must(boolean is, String what) {
        if (!is) {
            wrong++;
            System.out.println(what);
        }
    }

    public static void main(String[] args) throws IOException {
        face();
        members();
        text();
        depth();
        room();
        System.out.println(wrong == 0 ? "all rules are kept" : wrong + " rules are broken");
        if (wrong != 0) {
            System.exit(1);
        }
    }

    /** Every line of the document's face, word for word, and nothing else that can be seen from outside. */
    private static void face() throws IOException {
        Set<String> want = new TreeSet<>();
        Matcher said = Pattern.compile("^    public ([^;=]+?)(\\([^)]*\\)| = [^;]*);", Pattern.MULTILINE)
                .matcher(Files.readString(DOCUMENT));
        while (said.find()) {
            String parameters = said.group(2).replaceAll("(\\w+) \\w+", "$1").replaceAll(" = .*", "");
            want.add(said.group(1) + parameters);
        }
        Set<String> got = new TreeSet<>();
        for (Field field : LoopTables.class.getDeclaredFields()) {
            if (!Modifier.isPrivate(field.getModifiers())) {
                must(Modifier.isPublic(field.getModifiers()), field + " is not public");
                got.add(modifiers(field.getModifiers()) + field.getType().getSimpleName() + " " + field.getName());
            }
        }
        for (Constructor<?> made : LoopTables.class.getDeclaredConstructors()) {
            must(Modifier.isPublic(made.getModifiers()), made + " is not public");
            got.add("LoopTables" + parameters(made));
        }
        for (Method method : LoopTables.class.getDeclaredMethods()) {
            if (!Modifier.isPrivate(method.getModifiers())) {
                must(Modifier.isPublic(method.getModifiers()), method + " is not public");
                got.add(modifiers(method.getModifiers()) + method.getReturnType().getSimpleName() + " "
                        + method.getName() + parameters(method));
            }
        }
        must(want.size() == 49, "the document has " + want.size() + " members");
        must(got.equals(want), "the face is " + got + ", due is " + want);
        must(LoopTables.NONE == -1, "NONE is " + LoopTables.NONE);
        must(Modifier.isPublic(LoopTables.class.getModifiers()), "the class is not public");
        must(Modifier.isFinal(LoopTables.class.getModifiers()), "the class is not final");
    }

    private static String modifiers(int all) {
        String others = Modifier.toString(all & ~Modifier.PUBLIC);
        return others.isEmpty() ? "" : others + " ";
    }

    private static String parameters(Executable one) {
        List<String> types = new ArrayList<>();
        for (Class<?> type : one.getParameterTypes()) {
            types.add(type.getSimpleName());
        }
        return "(" + String.join(", ", types) + ")";
    }

    private static void members() {
        Set<String> face = new HashSet<>();
        for (Method method : LoopTables.class.getMethods()) {
            if (method.getDeclaringClass() == LoopTables.class) {
                face.add(method.getName());
            }
        }
        List<Class<?>> classes = new ArrayList<>(List.of(LoopTables.class.getDeclaredClasses()));
        classes.add(LoopTables.class);
        must(classes.size() <= 12, classes.size() + " classes");
        for (Class<?> one : classes) {
            boolean outer = one == LoopTables.class;
            must(outer || Modifier.isStatic(one.getModifiers()) && Modifier.isPrivate(one.getModifiers()),
                    one + " is not private and static");
            int fields = 0;
            for (Field field : one.getDeclaredFields()) {
                boolean constant = Modifier.isStatic(field.getModifiers());
                fields += constant ? 0 : 1;
                must(!constant || Modifier.isFinal(field.getModifiers()), field + " is static and not final");
                must(!outer || Modifier.isPrivate(field.getModifiers()) || field.getName().equals("NONE"),
                        field + " is not private");
            }
            must(fields <= 20, one + " has " + fields + " fields");
            List<Executable> all = new ArrayList<>(List.of(one.getDeclaredMethods()));
            for (Constructor<?> made : one.getDeclaredConstructors()) {
                all.add(made);
            }
            for (Executable method : all) {
                must(method.getParameterCount() <= 7, method + " has too many parameters");
                must(Modifier.isPublic(method.getModifiers()) || !face.contains(method.getName()),
                        method + " bears the name of a public one");
            }
        }
    }

    private static void text() throws IOException {
        String text = Files.readString(PROGRAM);
        for (char sign : text.toCharArray()) {
            must(sign < 127, "a sign beyond 126");
        }
        String code = text.replaceAll("(?s)/\\*.*?\\*/", "").replaceAll("//[^\n]*", "");
        String[] banned = {"\\b(throw|try|catch|throws|synchronized|assert|package|volatile|native|static \\{)\\b",
            "->", "::", "\\bexact\\b", "Exact\\(", "\\bInteger\\.[A-Z]", "\\bMath\\.[A-Z]", "\\bdouble\\b|\\bfloat\\b",
            "\\bvar\\b", "\\bString\\b", "\\bObject\\b", "while \\(true\\)", "for \\(;;\\)", "@", "\\.equals\\(",
            "\\.hashCode\\(", "\\.toString\\("};
        for (String one : banned) {
            Matcher found = Pattern.compile(one).matcher(code);
            must(!found.find(), "the text has " + one);
        }
        Set<String> allowed = Set.of("System.arraycopy", "Arrays.copyOf", "Arrays.fill", "Math.max", "Math.min",
                "Integer.bitCount", "Integer.numberOfTrailingZeros");
        Matcher used = Pattern.compile("\\b(System|Arrays|Math|Integer|Long|List|ArrayList)\\.\\w+").matcher(code);
        while (used.find()) {
            must(allowed.contains(used.group()), "the text has " + used.group());
        }
        Matcher imports = Pattern.compile("import ([\\w.*]+);").matcher(code);
        while (imports.find()) {
            must(imports.group(1).equals("java.util.Arrays"), "it imports " + imports.group(1));
        }
        methodLengths(text);
    }

    private static void methodLengths(String text) {
        int start = -1;
        int indent = 0;
        String[] lines = text.split("\n");
        Pattern head = Pattern.compile("( {4}| {8})(?=\\S)[\\w\\[\\] ]+\\([^;]*\\) \\{");
        for (int i = 0; i < lines.length; i++) {
            Matcher m = head.matcher(lines[i]);
            if (start < 0 && m.matches()) {
                start = i;
                indent = m.group(1).length();
            } else if (start >= 0 && lines[i].equals(" ".repeat(indent) + "}")) {
                must(i - start + 1 <= 60, lines[start].trim() + " has " + (i - start + 1) + " lines");
                start = -1;
            }
            must(lines[i].length() <= 110, "line " + (i + 1) + " is long");
        }
    }

    /** The longest chain of calls that enters no method twice, by the calls that the compiled classes have. */
    private static void depth() {
        Optional<ToolProvider> javap = ToolProvider.findFirst("javap");
        if (javap.isEmpty()) {
            System.out.println("not looked at: how deep calls go (this Java has no javap)");
            return;
        }
        Map<String, Set<String>> calls = new TreeMap<>();
        List<String> names = new ArrayList<>();
        names.add(LoopTables.class.getName());
        for (Class<?> one : LoopTables.class.getDeclaredClasses()) {
            names.add(one.getName());
        }
        for (String name : names) {
            addCalls(javap.get(), name, calls);
        }
        int deepest = 0;
        for (String method : calls.keySet()) {
            List<String> chain = longest(method, new ArrayList<>(), calls);
            deepest = Math.max(deepest, chain.size());
            must(chain.size() <= 8, "more than eight deep: " + chain);
        }
        must(deepest > 4, "calls were not read");
    }

    private static void addCalls(ToolProvider javap, String name, Map<String, Set<String>> calls) {
        StringWriter told = new StringWriter();
        String path = System.getProperty("java.class.path");
        PrintWriter out = new PrintWriter(told);
        javap.run(out, out, "-p", "-c", "-classpath", path, name);
        Pattern head = Pattern.compile("  \\S.*?([\\w$]+)\\(.*\\);");
        Pattern call = Pattern.compile(".*// Method (?:(LoopTables[\\w$]*)\\.)?\"?([\\w<>]+)\"?:.*");
        Set<String> here = new TreeSet<>();
        for (String line : told.toString().split("\\R")) {
            Matcher starts = head.matcher(line);
            Matcher goes = call.matcher(line);
            if (starts.matches()) {
                String method = starts.group(1).equals(name) ? "<init>" : starts.group(1);
                here = calls.computeIfAbsent(name + "." + method, key -> new TreeSet<>());
            } else if (goes.matches()) {
                here.add((goes.group(1) == null ? name : goes.group(1)) + "." + goes.group(2));
            }
        }
    }

    private static List<String> longest(String method, List<String> open, Map<String, Set<String>> calls) {
        List<String> chain = new ArrayList<>(open);
        chain.add(method);
        List<String> best = chain;
        for (String next : calls.getOrDefault(method, Set.of())) {
            if (!chain.contains(next)) {
                List<String> found = longest(next, chain, calls);
                best = found.size() > best.size() ? found : best;
            }
        }
        return best;
    }

    /** What a run of the dearest calls makes: far below 7.3 million fields and elements. */
    private static void room() {
        com.sun.management.ThreadMXBean threads =
                (com.sun.management.ThreadMXBean) ManagementFactory.getThreadMXBean();
        long id = Thread.currentThread().getId();
        dearCalls(new LoopTables());
        long before = threads.getThreadAllocatedBytes(id);
        LoopTables x = new LoopTables();
        long made = threads.getThreadAllocatedBytes(id) - before;
        dearCalls(x);
        long all = threads.getThreadAllocatedBytes(id) - before;
        must(made < 100_000, "a new object takes " + made + " bytes");
        must(all < 500_000, "a run of calls takes " + all + " bytes");
    }

    private static void dearCalls(LoopTables x) {
        int[][] words = Tape.words("x*(y*z)=(x*y)*z");
        for (int round = 0; round < 12; round++) {
            x.image(round % 2);
            for (int k = 0; k < 2; k++) {
                x.feed(words[0][0], words[0][1], words[0][2], words[0][3], words[0][4]);
                x.law();
            }
            x.cyclic(0, 6);
            x.turn(0, 0, 3, 0);
            x.walk(0, round, 200);
            x.isotope(0, 1, 2);
            x.conjugate(0, 3);
            x.rename(0, 700);
            x.listed(6, 1, 0);
            x.find(1, 6, 0, 1, 5000);
            for (int likeness = 0; likeness < 3; likeness++) {
                x.name(1, likeness, 35);
                x.alike(0, 1, likeness);
                x.group(1, likeness);
                x.crossings(1, likeness);
            }
            x.autos(1, 1);
            x.near(1, 1);
            x.parts(1, 1);
            x.makers(1, 1);
            x.board(6);
            x.clue(5, 5, 5);
            x.filled();
            x.spare(5, 5);
            x.fill(2);
            x.undo();
            x.redo();
            x.back(round % 2);
        }
    }
}
