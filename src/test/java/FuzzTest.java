import java.util.ArrayList;
import java.util.List;
import java.util.Random;

/**
 * Long runs of calls drawn from fixed seeds, each answer held against the reference. The first
 * call of a run that goes wrong is printed with all calls ahead of it.
 */
public final class FuzzTest {
    private static final int RUNS = 300;
    private static final String[] TEXTS = {
        "x * y = y * x", "x * (y * z) = (x * y) * z", "x * x = e", "x = x", "x * x = x",
        "x * (x * y) = (x * x) * y", "x * y / y = x", "x \\ (x * y) = y", "e * x = x",
        "x = y if x * x = y * y", "x * y = y * x if x * x = e, y * y = e", "x * y = e",
        "x*(y*(x*z))=((x*y)*x)*z", "x / y = x * (y \\ e)", "z * x = z \\ x", "x * x * x = e, x = x",
        "e = e * e", "x = y", "x * e = x, e * x = x if z = z", "(x * y) * (z * x) = (x * (y * z)) * x",
        "y * y = y * y * y * y", "x / x = y \\ y", "x * y = x \\ y if x = y"};
    private static final String[] TOKENS = {"x", "y", "z", "e", "*", "/", "\\", "=", ",", "if", "(", ")",
        " ", "  ", "a", "xy", "\t", "fi", "X", "\u0000", "\u00ff", "i", "f"};

    private final Random random;
    private final LoopTables tested = new LoopTables();
    private final Reference due = new Reference();
    private final List<String> said = new ArrayList<>();
    private boolean wrong = false;
    private int dear = 0;

    private FuzzTest(long seed) {
        random = new Random(seed);
    }

    public static void main(String[] args) {
        int from = args.length > 0 ? Integer.parseInt(args[0]) : 0;
        int runs = args.length > 1 ? Integer.parseInt(args[1]) : RUNS;
        for (int seed = from; seed < from + runs; seed++) {
            FuzzTest run = new FuzzTest(seed);
            int style = seed % 6;
            while (run.said.size() < 500 && !run.wrong) {
                run.step(style);
            }
            if (run.wrong) {
                run.said.forEach(System.out::println);
                System.out.println("seed " + seed);
                System.exit(1);
            }
        }
        System.out.println(runs + " runs are as due");
    }

    private void hold(String call, int got, int want) {
        said.add(call + " -> " + got);
        if (got != want) {
            wrong = true;
            said.add("   due is " + want);
        }
    }

    private int upTo(int n) {
        return random.nextInt(n);
    }

    /** Mostly 0 .. n - 1, at times a number near these or far off. */
    private int about(int n) {
        int die = upTo(40);
        if (die == 0) {
            return new int[] {-1, n, -2, n + 1, Integer.MIN_VALUE, Integer.MAX_VALUE, 63, 64}[upTo(8)];
        }
        return upTo(Math.max(n, 1));
    }

    /** The style says how many places are in use, so that some runs often meet tables that are not there. */
    private int table(int style) {
        return upTo(40) == 0 ? about(6) : upTo(style == 0 ? 6 : 3);
    }

    private int size(int table) {
        return Math.max(due.order(table), 1);
    }

    private boolean isDear(int table) {
        if (due.order(table) < 6) {
            return false;
        }
        dear++;
        return dear > 2;
    }

    private void step(int style) {
        int kind = upTo(100);
        if (kind < 30) {
            make(style);
        } else if (kind < 36) {
            remember();
        } else if (kind < 46) {
            laws(style);
        } else if (kind < 58) {
            boards(style);
        } else if (kind < 64) {
            tapes(style);
        } else if (kind < 70) {
            walks(style);
        } else if (kind < 76) {
            int what = about(12);
            hold("count(" + what + ")", tested.count(what), due.count(what));
            hold("status()", tested.status(), due.status());
            hold("fault()", tested.fault(), due.fault());
        } else if (kind < 88) {
            look(style);
        } else {
            liken(style);
        }
    }

    private void make(int style) {
        int t = table(style);
        int o = table(style);
        int n = size(t);
        int a = about(n);
        int b = about(n);
        int c = about(n);
        switch (upTo(11)) {
            case 0: {
                int size = upTo(30) == 0 ? about(8) : 1 + upTo(6);
                hold("cyclic(" + t + ", " + size + ")", tested.cyclic(t, size), due.cyclic(t, size));
                break;
            }
            case 1:
                hold("copy(" + t + ", " + o + ")", tested.copy(t, o), due.copy(t, o));
                break;
            case 2:
                hold("isotope(" + t + ", " + a + ", " + b + ")", tested.isotope(t, a, b), due.isotope(t, a, b));
                break;
            case 3: {
                int which = about(6);
                hold("conjugate(" + t + ", " + which + ")", tested.conjugate(t, which), due.conjugate(t, which));
                break;
            }
            case 4: {
                int p = about(new int[] {1, 1, 2, 6, 24, 120, 720}[n]);
                hold("rename(" + t + ", " + p + ")", tested.rename(t, p), due.rename(t, p));
                break;
            }
            case 5:
            case 6:
            case 7:
                hold("turn(" + t + ", " + a + ", " + b + ", " + c + ")", tested.turn(t, a, b, c), due.turn(t, a, b, c));
                break;
            case 8: {
                int q = table(style);
                hold("product(" + t + ", " + o + ", " + q + ")", tested.product(t, o, q), due.product(t, o, q));
                break;
            }
            case 9: {
                int bits = about(512);
                hold("extend(" + t + ", " + o + ", " + bits + ")", tested.extend(t, o, bits), due.extend(t, o, bits));
                break;
            }
            default: {
                int part = about(1 << size(o));
                if (upTo(2) == 0 && due.unit(o, 0) >= 0) {
                    part = due.closed(o, 1 << due.unit(o, 0) | 1 << upTo(size(o)));
                }
                hold("quotient(" + t + ", " + o + ", " + part + ")", tested.quotient(t, o, part), due.quotient(t, o, part));
                break;
            }
        }
    }

    private void remember() {
        int k = upTo(10) == 0 ? about(2) : upTo(2);
        switch (upTo(8)) {
            case 0:
                hold("image(" + k + ")", tested.image(k), due.image(k));
                break;
            case 1:
                hold("back(" + k + ")", tested.back(k), due.back(k));
                break;
            case 2:
            case 3:
            case 4: {
                int times = upTo(10) == 0 ? 31 : 1 + upTo(4);
                for (int i = 0; i < times; i++) {
                    hold("undo()", tested.undo(), due.undo());
                }
                break;
            }
            default: {
                int times = upTo(10) == 0 ? 31 : 1 + upTo(3);
                for (int i = 0; i < times; i++) {
                    hold("redo()", tested.redo(), due.redo());
                }
                break;
            }
        }
    }

    private void feedText(String text) {
        int before = due.count(4);
        for (int[] w : Tape.words(text)) {
            hold("feed(" + w[0] + ", " + w[1] + ", " + w[2] + ", " + w[3] + ", " + w[4] + ")",
                    tested.feed(w[0], w[1], w[2], w[3], w[4]), due.feed(w[0], w[1], w[2], w[3], w[4]));
        }
        int n = before + text.length();
        hold("end(" + n + ")", tested.end(n), due.end(n));
    }

    private String lawText() {
        String text = TEXTS[upTo(TEXTS.length)];
        int kind = upTo(6);
        if (kind == 0) {
            StringBuilder drawn = new StringBuilder();
            int tokens = 1 + upTo(12);
            for (int i = 0; i < tokens; i++) {
                drawn.append(TOKENS[upTo(i % 2 == 0 ? 6 : TOKENS.length)]);
            }
            return drawn.toString();
        }
        if (kind == 1) {
            int at = upTo(text.length() + 1);
            return text.substring(0, at) + TOKENS[upTo(TOKENS.length)] + text.substring(at);
        }
        if (kind == 2) {
            return text.substring(0, upTo(text.length() + 1));
        }
        if (kind == 3) {
            StringBuilder drawn = new StringBuilder();
            term(drawn, 1 + upTo(20), 0);
            drawn.append(" = ");
            term(drawn, 1 + upTo(14), 0);
            if (upTo(2) == 0) {
                drawn.append(" if x = ");
                term(drawn, 1 + upTo(4), 0);
            }
            return drawn.toString();
        }
        return text;
    }

    private void term(StringBuilder drawn, int letters, int depth) {
        if (letters == 1) {
            drawn.append("xyze".charAt(upTo(4)));
            return;
        }
        int first = 1 + upTo(letters - 1);
        term(drawn, first, depth);
        drawn.append("*/\\".charAt(upTo(3)));
        boolean bracket = upTo(3) > 0;
        drawn.append(bracket ? "(" : "");
        term(drawn, letters - first, depth + 1);
        drawn.append(bracket ? ")" : "");
    }

    private void laws(int style) {
        int kind = upTo(10);
        int t = table(style);
        if (kind < 3) {
            feedText(lawText());
            hold("law()", tested.law(), due.law());
            hold("fault()", tested.fault(), due.fault());
            return;
        }
        int law = about(Math.max(due.count(1), 1));
        if (kind < 5) {
            hold("holds(" + t + ", " + law + ")", tested.holds(t, law), due.holds(t, law));
            return;
        }
        if (kind < 8) {
            int what = about(4);
            hold("fails(" + t + ", " + law + ", " + what + ")", tested.fails(t, law, what), due.fails(t, law, what));
            return;
        }
        int n = upTo(20) == 0 ? about(8) : 1 + upTo(5);
        int hold = about(1 << due.count(1));
        int not = about(1 << due.count(1));
        hold &= upTo(3) == 0 ? -1 : random.nextInt();
        not &= upTo(2) == 0 ? random.nextInt() : 0;
        if (upTo(40) == 0 && dear < 3) {
            n = 6;
            dear++;
        }
        if (kind == 8) {
            hold("listed(" + n + ", " + hold + ", " + not + ")", tested.listed(n, hold, not), due.listed(n, hold, not));
        } else {
            int i = upTo(2) == 0 ? upTo(3) : upTo(20) == 0 ? -1 : upTo(n == 6 ? 9500 : 60);
            hold("find(" + t + ", " + n + ", " + hold + ", " + not + ", " + i + ")",
                    tested.find(t, n, hold, not, i), due.find(t, n, hold, not, i));
        }
    }

    private void boards(int style) {
        int n = due.count(2);
        int x = about(n);
        int y = about(n);
        int kind = upTo(14);
        if (kind == 0 || n == 0 && kind < 8) {
            int size = upTo(10) == 0 ? about(8) : 1 + upTo(6);
            hold("board(" + size + ")", tested.board(size), due.board(size));
            return;
        }
        if (kind < 9) {
            // Often the cell of a table that there is, so that many clues can stand together.
            int t = table(style);
            int value = due.order(t) == n && upTo(8) > 0 ? due.at(t, 0, x, y) : about(n + 1) - 1;
            hold("clue(" + x + ", " + y + ", " + value + ")", tested.clue(x, y, value), due.clue(x, y, value));
            return;
        }
        if (kind == 9) {
            int t = table(style);
            hold("fill(" + t + ")", tested.fill(t), due.fill(t));
            return;
        }
        // The reference is slow where there are many.
        if (n >= 5 && due.count(3) < 4) {
            dear++;
            if (dear > 3) {
                return;
            }
        }
        if (kind < 12) {
            hold("filled()", tested.filled(), due.filled());
        } else {
            hold("spare(" + x + ", " + y + ")", tested.spare(x, y), due.spare(x, y));
        }
    }

    private void tapes(int style) {
        int t = table(style);
        int kind = upTo(6);
        if (kind == 0) {
            int n = about(60);
            hold("end(" + n + ")", tested.end(n), due.end(n));
            return;
        }
        if (kind == 1) {
            int a = random.nextInt();
            hold("feed(" + a + ", 1, 2, 3, 4)", tested.feed(a, 1, 2, 3, 4), due.feed(a, 1, 2, 3, 4));
            return;
        }
        if (kind == 2 && upTo(6) == 0) {
            for (int i = 0; i < 21; i++) {
                hold("feed(..)", tested.feed(i, i, i, i, i), due.feed(i, i, i, i, i));
            }
            return;
        }
        if (kind == 3) {
            hold("row(" + t + ")", tested.row(t), due.row(t));
            return;
        }
        int o = table(style);
        int n = due.order(o);
        if (n < 1) {
            return;
        }
        hold("end(0)", tested.end(0), due.end(0));
        StringBuilder row = new StringBuilder();
        row.append((char) n);
        for (int i = 0; i < n * n; i++) {
            row.append((char) due.at(o, 0, i % n, i / n));
        }
        int die = upTo(8);
        if (die == 0) {
            row.setCharAt(upTo(row.length()), (char) upTo(7));
        } else if (die == 1) {
            row.append('\u0000');
        } else if (die == 2) {
            row.setLength(upTo(row.length() + 1));
        }
        feedText(row.toString());
        hold("row(" + t + ")", tested.row(t), due.row(t));
    }

    private void walks(int style) {
        int t = table(style);
        int seed = upTo(20) == 0 ? new int[] {-1, 0, 1000000, 1000001}[upTo(4)] : upTo(1000001);
        int steps = upTo(20) == 0 ? new int[] {-1, 0, 200, 201}[upTo(4)] : upTo(60);
        hold("walk(" + t + ", " + seed + ", " + steps + ")", tested.walk(t, seed, steps), due.walk(t, seed, steps));
        for (int i = 0; i < 3; i++) {
            int x = about(6);
            int y = about(6);
            hold("drawn(" + x + ", " + y + ")", tested.drawn(x, y), due.drawn(x, y));
        }
    }

    private void look(int style) {
        int t = table(style);
        int o = table(style);
        int n = size(t);
        int x = about(n);
        int y = about(n);
        switch (upTo(10)) {
            case 0:
                hold("order(" + t + ")", tested.order(t), due.order(t));
                break;
            case 1: {
                int what = about(3);
                hold("at(" + t + ", " + what + ", " + x + ", " + y + ")", tested.at(t, what, x, y), due.at(t, what, x, y));
                break;
            }
            case 2: {
                int what = about(3);
                hold("unit(" + t + ", " + what + ")", tested.unit(t, what), due.unit(t, what));
                break;
            }
            case 3: {
                int what = about(6);
                hold("nucleus(" + t + ", " + what + ")", tested.nucleus(t, what), due.nucleus(t, what));
                break;
            }
            case 4: {
                int what = about(2);
                hold("counts(" + t + ", " + what + ")", tested.counts(t, what), due.counts(t, what));
                break;
            }
            case 5: {
                int part = about(1 << n);
                hold("closed(" + t + ", " + part + ")", tested.closed(t, part), due.closed(t, part));
                break;
            }
            case 6: {
                int what = about(2);
                hold("parts(" + t + ", " + what + ")", tested.parts(t, what), due.parts(t, what));
                break;
            }
            case 7: {
                int what = about(2);
                hold("makers(" + t + ", " + what + ")", tested.makers(t, what), due.makers(t, what));
                break;
            }
            case 8: {
                int what = about(2);
                hold("cycles(" + t + ", " + x + ", " + y + ", " + what + ")",
                        tested.cycles(t, x, y, what), due.cycles(t, x, y, what));
                break;
            }
            default:
                hold("apart(" + t + ", " + o + ")", tested.apart(t, o), due.apart(t, o));
                break;
        }
    }

    private void liken(int style) {
        int t = table(style);
        int o = table(style);
        int kind = upTo(6);
        int likeness = about(3);
        if (kind == 0) {
            if (likeness != 0 && isDear(t)) {
                return;
            }
            for (int i = 0; i < 4; i++) {
                int cell = upTo(20) == 0 ? about(36) : upTo(size(t) * size(t));
                hold("name(" + t + ", " + likeness + ", " + cell + ")",
                        tested.name(t, likeness, cell), due.name(t, likeness, cell));
            }
        } else if (kind == 1) {
            if (likeness == 0 || !isDear(t)) {
                hold("alike(" + t + ", " + o + ", " + likeness + ")", tested.alike(t, o, likeness), due.alike(t, o, likeness));
            }
        } else if (kind == 2) {
            int what = about(2);
            if (what != 1 || !isDear(t)) {
                hold("autos(" + t + ", " + what + ")", tested.autos(t, what), due.autos(t, what));
            }
        } else if (kind == 3) {
            int what = about(3);
            hold("crossings(" + t + ", " + what + ")", tested.crossings(t, what), due.crossings(t, what));
        } else if (kind == 4) {
            int what = about(3);
            hold("group(" + t + ", " + what + ")", tested.group(t, what), due.group(t, what));
        } else {
            int what = about(2);
            hold("near(" + t + ", " + what + ")", tested.near(t, what), due.near(t, what));
        }
    }
}
