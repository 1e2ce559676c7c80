import java.io.IOException;
import java.nio.file.Files;
import java.nio.file.Path;
import java.util.ArrayList;
import java.util.List;
import java.util.regex.Matcher;
import java.util.regex.Pattern;

/** The README's calls, in their order, on one object: each answers the number behind it. */
public final class ReadmeTest {
    private static final Pattern CODE = Pattern.compile("```java\n(.*?)```", Pattern.DOTALL);
    private static final Pattern CALL = Pattern.compile("tables\\.(\\w+\\([^)]*\\)); +// (-?\\d+)(:.*)?");
    private static final int FEWEST = 20;

    private ReadmeTest() {
    }

    public static void main(String[] args) throws IOException {
        List<String> run = new ArrayList<>();
        List<String> wrong = new ArrayList<>();
        Matcher code = CODE.matcher(Files.readString(Path.of("README.md")));
        while (code.find()) {
            for (String line : code.group(1).split("\n")) {
                Matcher call = CALL.matcher(line);
                if (call.matches()) {
                    run.add(asLine(call.group(1), call.group(2)));
                } else if (!line.equals("LoopTables tables = new LoopTables();")) {
                    wrong.add("no call with an answer: " + line);
                }
            }
        }
        if (run.size() < FEWEST) {
            wrong.add("only " + run.size() + " calls");
        }
        wrong.addAll(Run.of(run));
        wrong.forEach(System.out::println);
        System.out.println(wrong.isEmpty() ? run.size() + " calls are as due" : wrong.size() + " faults");
        if (!wrong.isEmpty()) {
            System.exit(1);
        }
    }

    /** In the README, answers below -1 are refusals, and -1 is none. */
    private static String asLine(String call, String answer) {
        boolean refusal = Integer.parseInt(answer) < LoopTables.NONE && !call.startsWith("status");
        return call + (refusal ? " refused " : " -> ") + answer;
    }
}
