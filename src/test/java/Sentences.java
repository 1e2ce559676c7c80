import java.io.IOException;
import java.nio.file.Files;
import java.nio.file.Path;
import java.util.ArrayList;
import java.util.BitSet;
import java.util.List;
import java.util.Map;
import java.util.TreeMap;
import java.util.regex.Matcher;
import java.util.regex.Pattern;

/**
 * The document's sentences, each held to a run of calls of its own. A sentence is quoted as it
 * stands in its promise or ahead of all promises (in the terms, mostly), and in the end no word of
 * these may be left unquoted.
 */
final class Sentences {
    private static final Path DOCUMENT = Path.of("..", "shared", "DOC.md");
    /** The place of what is said ahead of the promises, whose sections have their numbers. */
    private static final int AHEAD = 0;

    private final Map<Integer, String> sections = new TreeMap<>();
    private final Map<Integer, BitSet> quoted = new TreeMap<>();
    private int held = 0;
    private int broken = 0;

    Sentences() throws IOException {
        String document = Files.readString(DOCUMENT);
        String use = between(document, "all gone back to.", "## The public face");
        String terms = between(document, "## Terms", "## Promise 1:").replaceAll("```\\w*", "");
        keep(AHEAD, use + terms.replaceAll("(?m)^(I|II|III|IV)\\. ", ""));
        Matcher promise = Pattern.compile("## Promise (\\d+):[^\n]*\n+`[^`]*`:(.*?)(?=\n## )", Pattern.DOTALL)
                .matcher(document);
        while (promise.find()) {
            keep(Integer.parseInt(promise.group(1)), promise.group(2));
        }
    }

    private void keep(int section, String text) {
        sections.put(section, text.replaceAll("\\s+", " ").trim());
        quoted.put(section, new BitSet());
    }

    private static String between(String text, String from, String to) {
        int start = text.indexOf(from) + from.length();
        return text.substring(start, text.indexOf(to, start));
    }

    /** Holds a sentence to a run of calls on a new object: lines and rows of lines. */
    void says(int promise, String sentence, Object... lines) {
        List<String> run = new ArrayList<>();
        for (Object line : lines) {
            run.addAll(line instanceof String[] ? List.of((String[]) line) : List.of((String) line));
        }
        held++;
        if (!quote(promise, sentence) && !quote(AHEAD, sentence)) {
            tell(promise, sentence, "does not stand in the document");
        }
        for (String wrong : Run.of(run)) {
            tell(promise, sentence, wrong);
        }
    }

    private boolean quote(int section, String sentence) {
        int at = sections.get(section).indexOf(sentence);
        boolean found = at >= 0;
        while (at >= 0) {
            quoted.get(section).set(at, at + sentence.length());
            at = sections.get(section).indexOf(sentence, at + 1);
        }
        return found;
    }

    private void tell(int promise, String sentence, String wrong) {
        broken++;
        System.out.println("promise " + promise + ", \"" + sentence + "\": " + wrong);
    }

    /** Looks for words that no test quotes; whether all is as due. */
    boolean allHeld() {
        for (int section : sections.keySet()) {
            String text = sections.get(section);
            Matcher word = Pattern.compile("[\\w!-]+").matcher(text);
            List<String> left = new ArrayList<>();
            while (word.find()) {
                if (!quoted.get(section).get(word.start())) {
                    left.add(word.group());
                }
            }
            if (!left.isEmpty()) {
                tell(section, String.join(" ", left), "is quoted by no test");
            }
        }
        if (sections.size() != 49) {
            tell(0, "", sections.size() + " sections, due are 49");
        }
        System.out.println(broken == 0 ? held + " sentences hold" : broken + " faults in " + held + " sentences");
        return broken == 0;
    }
}
