import java.lang.reflect.InvocationTargetException;
import java.lang.reflect.Method;
import java.util.ArrayList;
import java.util.HashMap;
import java.util.List;
import java.util.Map;
import java.util.Set;
import java.util.regex.Matcher;
import java.util.regex.Pattern;

/**
 * A run of calls on a new object, told in lines:
 *
 * <pre>
 *   name(numbers) -> answer      the call answers that
 *   name(numbers) refused code   it is refused: besides, nothing that stands has changed
 *   name(numbers)                the call prepares what follows: it is not refused
 *   cells(table) -> digits       all cells of a table, row by row ("none" without one)
 *   drawn -> digits              all cells behind the latest walk ("none" without one)
 *   named(table, likeness) -> digits
 *   tape text                    the text comes behind the tape
 *   bytes 2 0 1 1 0              the bytes come behind the tape
 *   7 times line                 the line, so many times
 * </pre>
 *
 * Behind each line status() is looked at, behind all of them the counts of refusals.
 */
final class Run {
    private static final int MOST_CALLS = 512;
    private static final Set<String> WITH_STATUS = Set.of("row", "cyclic", "copy", "isotope", "conjugate", "rename",
            "turn", "product", "extend", "quotient", "undo", "redo", "law", "find", "board", "clue", "fill", "walk",
            "image", "back");
    private static final int[] CODES = {-1, -2, -3, -5, -6};
    private static final Pattern TIMES = Pattern.compile("(\\d+) times (.*)", Pattern.DOTALL);
    private static final Pattern LINE = Pattern.compile("(\\w+)(\\(([^)]*)\\))?(?: (->|refused) (\\S+))?");
    private static final Map<String, Method> METHODS = new HashMap<>();

    static {
        for (Method method : LoopTables.class.getMethods()) {
            if (method.getDeclaringClass() == LoopTables.class) {
                METHODS.put(method.getName(), method);
            }
        }
    }

    private final LoopTables x = new LoopTables();
    private final List<String> wrong = new ArrayList<>();
    private final int[] refusals = new int[CODES.length];
    private int status = 0;
    private int calls = 0;
    /** How all stood behind the latest refusal, if no line came since. */
    private String stood = null;

    /** What was not as due. */
    static List<String> of(List<String> lines) {
        Run run = new Run();
        for (String line : lines) {
            Matcher repeated = TIMES.matcher(line);
            int times = repeated.matches() ? Integer.parseInt(repeated.group(1)) : 1;
            for (int i = 0; i < times; i++) {
                run.take(times > 1 ? repeated.group(2) : line);
            }
        }
        for (int i = 0; i < CODES.length; i++) {
            run.due("count(" + (5 + i) + ") behind all", run.call("count", 5 + i), run.refusals[i]);
        }
        run.due("calls beyond 512", Math.max(0, run.calls - MOST_CALLS), 0);
        return run.wrong;
    }

    private void due(String what, Object got, Object want) {
        if (!got.equals(want)) {
            wrong.add(what + " answered " + got + ", due is " + want);
        }
    }

    private void take(String line) {
        if (line.startsWith("tape ")) {
            stood = null;
            put(line.substring(5));
            return;
        }
        if (line.startsWith("bytes ")) {
            stood = null;
            StringBuilder text = new StringBuilder();
            for (String number : line.substring(6).trim().split(" +")) {
                text.append((char) Integer.parseInt(number));
            }
            put(text.toString());
            return;
        }
        Matcher parts = LINE.matcher(line);
        if (!parts.matches()) {
            throw new IllegalArgumentException(line);
        }
        String said = parts.group(1) + (parts.group(2) == null ? "" : parts.group(2));
        int[] given = numbers(parts.group(3));
        if ("refused".equals(parts.group(4))) {
            refused(said, parts.group(1), given, number(parts.group(5)));
        } else {
            taken(said, parts.group(1), given, parts.group(5));
        }
    }

    private void taken(String said, String name, int[] given, String answer) {
        stood = null;
        if (said.equals("drawn")) {
            due(said, walked(), answer);
        } else if (name.equals("cells")) {
            due(said, cells(given[0]), answer);
        } else if (name.equals("named")) {
            due(said, named(given[0], given[1]), answer);
        } else {
            int got = call(name, given);
            due(said, got, answer == null ? got : number(answer));
        }
        if (WITH_STATUS.contains(name)) {
            status = 0;
        }
        due("status() behind " + said, call("status"), status);
    }

    private void refused(String said, String name, int[] given, int code) {
        String before = stood == null ? standing() : stood;
        due(said, call(name, given), code);
        due("status() behind " + said, call("status"), code);
        status = code;
        for (int i = 0; i < CODES.length; i++) {
            refusals[i] += CODES[i] == code ? 1 : 0;
            due("count(" + (5 + i) + ") behind " + said, call("count", 5 + i), refusals[i]);
        }
        stood = standing();
        // A row and a law that are refused otherwise than by -1 take the tape, and a law tells its fault.
        boolean takesTape = code != -1 && (name.equals("row") || name.equals("law"));
        String tape = "(?m)^(tape|fault) .*$";
        String now = takesTape ? stood.replaceAll(tape, "") : stood;
        due("what stands behind " + said, now, takesTape ? before.replaceAll(tape, "") : before);
        if (takesTape) {
            due("the tape behind " + said, call("count", 4), 0);
        }
    }

    private String standing() {
        StringBuilder all = new StringBuilder();
        for (int table = 0; table < 6; table++) {
            all.append("table ").append(cells(table)).append('\n');
        }
        for (int what : new int[] {0, 1, 2, 3, 10, 11}) {
            all.append("count(").append(what).append(") ").append(call("count", what)).append('\n');
        }
        all.append("walk ").append(walked()).append('\n');
        all.append("tape ").append(call("count", 4)).append('\n');
        all.append("fault ").append(call("fault")).append('\n');
        return all.toString();
    }

    private String cells(int table) {
        int n = call("order", table);
        StringBuilder all = new StringBuilder();
        for (int i = 0; i < n * n && n > 0; i++) {
            all.append(call("at", table, 0, i / n, i % n));
        }
        return n < 1 ? "none" : all.toString();
    }

    private String named(int table, int likeness) {
        int n = call("order", table);
        StringBuilder all = new StringBuilder();
        for (int i = 0; i < n * n; i++) {
            all.append(call("name", table, likeness, i));
        }
        return all.toString();
    }

    private String walked() {
        int n = 0;
        while (n < 7 && call("drawn", n, 0) >= 0) {
            n++;
        }
        StringBuilder all = new StringBuilder();
        for (int i = 0; i < n * n; i++) {
            all.append(call("drawn", i / n, i % n));
        }
        return n < 1 ? "none" : all.toString();
    }

    private void put(String text) {
        int before = call("count", 4);
        for (int[] w : Tape.words(text)) {
            call("feed", w);
        }
        due("the tape's length", call("end", before + text.length()), before + text.length());
    }

    private static int number(String text) {
        switch (text) {
            case "LEAST":
                return Integer.MIN_VALUE;
            case "MOST":
                return Integer.MAX_VALUE;
            case "NONE":
                return LoopTables.NONE;
            default:
                // Numbers of four bytes may be told as they stand on the tape.
                return text.startsWith("0x") ? Integer.parseUnsignedInt(text.substring(2), 16) : Integer.parseInt(text);
        }
    }

    private static int[] numbers(String list) {
        if (list == null || list.isBlank()) {
            return new int[0];
        }
        String[] parts = list.split(", *");
        int[] all = new int[parts.length];
        for (int i = 0; i < parts.length; i++) {
            all[i] = number(parts[i].trim());
        }
        return all;
    }

    private int call(String name, int... given) {
        Object[] boxed = new Object[given.length];
        for (int i = 0; i < given.length; i++) {
            boxed[i] = given[i];
        }
        Method method = METHODS.get(name);
        if (method == null || method.getParameterCount() != given.length) {
            throw new IllegalArgumentException(name);
        }
        calls++;
        try {
            return (Integer) method.invoke(x, boxed);
        } catch (InvocationTargetException thrown) {
            wrong.add(name + " threw " + thrown.getCause());
            return Integer.MIN_VALUE;
        } catch (IllegalAccessException never) {
            throw new IllegalStateException(never);
        }
    }
}
