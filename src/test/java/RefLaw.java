import java.util.ArrayList;
import java.util.List;

/**
 * A law read by asking of each token whether a law can begin with all tokens up to it, and reckoned
 * from the text itself.
 */
final class RefLaw {
    final int fault;
    private final List<String> tokens = new ArrayList<>();
    private final List<Integer> places = new ArrayList<>();

    RefLaw(String text) {
        int i = 0;
        while (i < text.length()) {
            if (text.charAt(i) == ' ') {
                i++;
                continue;
            }
            int k = i + 1;
            if (isLetter(text.charAt(i))) {
                while (k < text.length() && isLetter(text.charAt(k))) {
                    k++;
                }
            }
            tokens.add(text.substring(i, k));
            places.add(i);
            i = k;
        }
        int bad = firstBad();
        fault = bad < 0 ? -1 : bad == tokens.size() ? text.length() : places.get(bad);
    }

    private static boolean isLetter(char sign) {
        return sign >= 'a' && sign <= 'z';
    }

    /** The number of the first token that can't be; the count of tokens for the end; -1 without. */
    private int firstBad() {
        boolean wantsPart = true;
        boolean hasEqual = false;
        boolean hasIf = false;
        int open = 0;
        int letters = 0;
        for (int i = 0; i < tokens.size(); i++) {
            String token = tokens.get(i);
            if (wantsPart) {
                if (token.equals("(")) {
                    open++;
                    if (open > 8) {
                        return i;
                    }
                } else if (List.of("x", "y", "z", "e").contains(token)) {
                    letters++;
                    wantsPart = false;
                    if (letters > 32) {
                        return i;
                    }
                } else {
                    return i;
                }
                continue;
            }
            if (token.equals(")") && open > 0) {
                open--;
            } else if (List.of("*", "/", "\\").contains(token)) {
                wantsPart = true;
            } else if (token.equals("=") && open == 0 && !hasEqual) {
                hasEqual = true;
                wantsPart = true;
            } else if (token.equals(",") && open == 0 && hasEqual) {
                hasEqual = false;
                wantsPart = true;
            } else if (token.equals("if") && open == 0 && hasEqual && !hasIf) {
                hasIf = true;
                hasEqual = false;
                wantsPart = true;
            } else {
                return i;
            }
        }
        return wantsPart || open > 0 || !hasEqual ? tokens.size() : -1;
    }

    /** The failures in their order, up to a most. */
    List<int[]> failures(int[][] t, int most) {
        List<int[]> all = new ArrayList<>();
        int n = t.length;
        for (int x = 0; x < (tokens.contains("x") ? n : 1); x++) {
            for (int y = 0; y < (tokens.contains("y") ? n : 1); y++) {
                for (int z = 0; z < (tokens.contains("z") ? n : 1); z++) {
                    if (all.size() < most && failsFor(t, x, y, z)) {
                        all.add(new int[] {x, y, z});
                    }
                }
            }
        }
        return all;
    }

    private boolean failsFor(int[][] t, int x, int y, int z) {
        int at = tokens.indexOf("if");
        int split = at < 0 ? tokens.size() : at;
        boolean ahead = allSo(t, tokens.subList(0, split), x, y, z);
        boolean behind = at < 0 || allSo(t, tokens.subList(at + 1, tokens.size()), x, y, z);
        return behind && !ahead;
    }

    private static boolean allSo(int[][] t, List<String> side, int x, int y, int z) {
        int from = 0;
        boolean so = true;
        for (int i = 0; i <= side.size(); i++) {
            if (i == side.size() || side.get(i).equals(",")) {
                List<String> equation = side.subList(from, i);
                int middle = equation.indexOf("=");
                so &= value(t, equation.subList(0, middle), x, y, z)
                        == value(t, equation.subList(middle + 1, equation.size()), x, y, z);
                from = i + 1;
            }
        }
        return so;
    }

    /** The last operation outside all brackets is the outermost, for terms go from the left. */
    private static int value(int[][] t, List<String> term, int x, int y, int z) {
        int depth = 0;
        for (int i = term.size() - 1; i >= 0; i--) {
            String token = term.get(i);
            depth += token.equals(")") ? 1 : token.equals("(") ? -1 : 0;
            if (depth == 0 && List.of("*", "/", "\\").contains(token)) {
                int a = value(t, term.subList(0, i), x, y, z);
                int b = value(t, term.subList(i + 1, term.size()), x, y, z);
                return joined(t, token, a, b);
            }
        }
        switch (term.get(0)) {
            case "(":
                return value(t, term.subList(1, term.size() - 1), x, y, z);
            case "x":
                return x;
            case "y":
                return y;
            case "z":
                return z;
            default:
                return unit(t);
        }
    }

    private static int joined(int[][] t, String operation, int a, int b) {
        if (operation.equals("*")) {
            return t[a][b];
        }
        for (int c = 0; c < t.length; c++) {
            if (operation.equals("/") ? t[c][b] == a : t[a][c] == b) {
                return c;
            }
        }
        throw new IllegalStateException();
    }

    private static int unit(int[][] t) {
        for (int e = 0; e < t.length; e++) {
            boolean is = true;
            for (int x = 0; x < t.length; x++) {
                is &= t[e][x] == x && t[x][e] == x;
            }
            if (is) {
                return e;
            }
        }
        return 0;
    }
}
