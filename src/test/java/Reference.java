import java.util.ArrayList;
import java.util.Arrays;
import java.util.HashSet;
import java.util.List;
import java.util.Set;

/**
 * The document said over again in the slowest plain way: by trying all there is. It shares no code
 * and no method of search with LoopTables, so that runs of calls can be held against it.
 */
final class Reference {
    private static final int NONE = -1;

    // ---- what images keep ----
    private int[][][] tables = new int[6][][];
    private List<RefLaw> laws = new ArrayList<>();
    private int clueSize = 0;
    private int[][] clues = new int[0][0];
    private List<Change> past = new ArrayList<>();
    private List<Change> future = new ArrayList<>();

    // ---- what they do not keep ----
    private final List<Integer> tape = new ArrayList<>();
    private int fault = NONE;
    private int[][] walked = null;
    private final int[] refused = new int[10];
    private int status = 0;
    private final Object[][] images = new Object[2][];

    private record Change(int table, int[][] before, int[][] after) { }

    // ---------------------------------------------------------------- helpers

    private int refuse(int code) {
        status = code;
        refused[-code]++;
        return code;
    }

    private int fine(int answer) {
        status = 0;
        return answer;
    }

    private int[][] get(int table) {
        return table >= 0 && table <= 5 ? tables[table] : null;
    }

    private void set(int table, int[][] made) {
        past.add(new Change(table, tables[table], made));
        if (past.size() > 30) {
            past.remove(0);
        }
        future.clear();
        tables[table] = made;
    }

    private static boolean slot(int table) {
        return table >= 0 && table <= 5;
    }

    private static boolean in(int x, int[][] t) {
        return x >= 0 && x < t.length;
    }

    static List<int[]> permutations(int n) {
        List<int[]> all = new ArrayList<>();
        permute(new int[n], 0, all);
        return all;
    }

    private static void permute(int[] p, int k, List<int[]> all) {
        if (k == p.length) {
            all.add(p.clone());
            return;
        }
        for (int v = 0; v < p.length; v++) {
            boolean used = false;
            for (int i = 0; i < k; i++) {
                used |= p[i] == v;
            }
            if (!used) {
                p[k] = v;
                permute(p, k + 1, all);
            }
        }
    }

    static boolean latin(int[][] t) {
        for (int i = 0; i < t.length; i++) {
            Set<Integer> row = new HashSet<>();
            Set<Integer> column = new HashSet<>();
            for (int k = 0; k < t.length; k++) {
                if (t[i][k] < 0 || t[i][k] >= t.length) {
                    return false;
                }
                row.add(t[i][k]);
                column.add(t[k][i]);
            }
            if (row.size() < t.length || column.size() < t.length) {
                return false;
            }
        }
        return true;
    }

    private static int under(int[][] t, int x, int y) {
        for (int z = 0; z < t.length; z++) {
            if (t[x][z] == y) {
                return z;
            }
        }
        throw new IllegalStateException();
    }

    private static int over(int[][] t, int x, int y) {
        for (int z = 0; z < t.length; z++) {
            if (t[z][y] == x) {
                return z;
            }
        }
        throw new IllegalStateException();
    }

    private static int unitOf(int[][] t, boolean left, boolean right) {
        for (int e = 0; e < t.length; e++) {
            boolean is = true;
            for (int x = 0; x < t.length; x++) {
                is &= !left || t[e][x] == x;
                is &= !right || t[x][e] == x;
            }
            if (is) {
                return e;
            }
        }
        return NONE;
    }

    private static int apart(int[][] s, int[][] t) {
        int found = 0;
        for (int x = 0; x < s.length; x++) {
            for (int y = 0; y < s.length; y++) {
                found += s[x][y] != t[x][y] ? 1 : 0;
            }
        }
        return found;
    }

    private static int compare(int[][] s, int[][] t) {
        for (int x = 0; x < s.length; x++) {
            int c = Arrays.compare(s[x], t[x]);
            if (c != 0) {
                return c;
            }
        }
        return 0;
    }

    // ---------------------------------------------------------------- 2 to 13

    int feed(int a, int b, int c, int d, int e) {
        if (tape.size() + 20 > 400) {
            return NONE;
        }
        for (int word : new int[] {a, b, c, d, e}) {
            tape.add(word >>> 24);
            tape.add(word >>> 16 & 255);
            tape.add(word >>> 8 & 255);
            tape.add(word & 255);
        }
        return tape.size();
    }

    int end(int n) {
        if (n < 0 || n > tape.size()) {
            return NONE;
        }
        while (tape.size() > n) {
            tape.remove(tape.size() - 1);
        }
        return n;
    }

    int row(int table) {
        if (!slot(table)) {
            return refuse(-1);
        }
        List<Integer> bytes = new ArrayList<>(tape);
        tape.clear();
        if (bytes.isEmpty() || bytes.get(0) < 1 || bytes.get(0) > 6
                || bytes.size() != 1 + bytes.get(0) * bytes.get(0)) {
            return refuse(-6);
        }
        int n = bytes.get(0);
        int[][] t = new int[n][n];
        for (int i = 0; i < n * n; i++) {
            t[i / n][i % n] = bytes.get(1 + i);
        }
        if (!latin(t)) {
            return refuse(-6);
        }
        set(table, t);
        return fine(n);
    }

    private static int[][] cyclicTable(int n) {
        int[][] t = new int[n][n];
        for (int x = 0; x < n; x++) {
            for (int y = 0; y < n; y++) {
                t[x][y] = (x + y) % n;
            }
        }
        return t;
    }

    int cyclic(int table, int n) {
        if (!slot(table) || n < 1 || n > 6) {
            return refuse(-1);
        }
        set(table, cyclicTable(n));
        return fine(n);
    }

    int copy(int table, int other) {
        if (!slot(table)) {
            return refuse(-1);
        }
        if (get(other) == null) {
            return refuse(-2);
        }
        set(table, get(other));
        return fine(get(other).length);
    }

    int isotope(int table, int a, int b) {
        int[][] t = get(table);
        if (t == null) {
            return refuse(-2);
        }
        if (!in(a, t) || !in(b, t)) {
            return refuse(-1);
        }
        int[][] made = new int[t.length][t.length];
        for (int x = 0; x < t.length; x++) {
            for (int y = 0; y < t.length; y++) {
                made[x][y] = t[over(t, x, b)][under(t, a, y)];
            }
        }
        set(table, made);
        return fine(unitOf(made, true, true));
    }

    private static int[][] conjugateOf(int[][] t, int which) {
        // The places of x, y, z in what is made: row, column, element.
        int[][] seats = {{0, 1, 2}, {1, 0, 2}, {0, 2, 1}, {2, 0, 1}, {1, 2, 0}, {2, 1, 0}};
        int[][] made = new int[t.length][t.length];
        for (int x = 0; x < t.length; x++) {
            for (int y = 0; y < t.length; y++) {
                int[] xyz = {x, y, t[x][y]};
                int[] s = seats[which];
                made[xyz[s[0]]][xyz[s[1]]] = xyz[s[2]];
            }
        }
        return made;
    }

    int conjugate(int table, int which) {
        if (get(table) == null) {
            return refuse(-2);
        }
        if (which < 0 || which > 5) {
            return refuse(-1);
        }
        set(table, conjugateOf(get(table), which));
        return fine(0);
    }

    private static int[][] renamed(int[][] t, int[] p) {
        int[][] made = new int[t.length][t.length];
        for (int x = 0; x < t.length; x++) {
            for (int y = 0; y < t.length; y++) {
                made[p[x]][p[y]] = p[t[x][y]];
            }
        }
        return made;
    }

    int rename(int table, int permutation) {
        int[][] t = get(table);
        if (t == null) {
            return refuse(-2);
        }
        List<int[]> all = permutations(t.length);
        if (permutation < 0 || permutation >= all.size()) {
            return refuse(-1);
        }
        set(table, renamed(t, all.get(permutation)));
        return fine(0);
    }

    private static List<Integer> cycleOf(int[][] t, int a, int b, int column) {
        List<Integer> columns = new ArrayList<>();
        int c = column;
        do {
            columns.add(c);
            c = under(t, a, t[b][c]);
        } while (c != column);
        return columns;
    }

    private static int[][] switched(int[][] t, int a, int b, List<Integer> columns) {
        int[][] made = new int[t.length][];
        for (int x = 0; x < t.length; x++) {
            made[x] = t[x].clone();
        }
        for (int c : columns) {
            made[a][c] = t[b][c];
            made[b][c] = t[a][c];
        }
        return made;
    }

    int turn(int table, int a, int b, int column) {
        int[][] t = get(table);
        if (t == null) {
            return refuse(-2);
        }
        if (!in(a, t) || !in(b, t) || !in(column, t) || a == b) {
            return refuse(-1);
        }
        List<Integer> columns = cycleOf(t, a, b, column);
        set(table, switched(t, a, b, columns));
        return fine(columns.size());
    }

    int product(int table, int one, int other) {
        if (!slot(table)) {
            return refuse(-1);
        }
        int[][] s = get(one);
        int[][] t = get(other);
        if (s == null || t == null) {
            return refuse(-2);
        }
        int m = t.length;
        int size = s.length * m;
        if (size > 6) {
            return refuse(-3);
        }
        int[][] made = new int[size][size];
        for (int x = 0; x < size; x++) {
            for (int y = 0; y < size; y++) {
                made[x][y] = m * s[x / m][y / m] + t[x % m][y % m];
            }
        }
        set(table, made);
        return fine(size);
    }

    int extend(int table, int one, int bits) {
        if (!slot(table) || bits < 0 || bits > 511) {
            return refuse(-1);
        }
        int[][] t = get(one);
        if (t == null) {
            return refuse(-2);
        }
        if (t.length > 3) {
            return refuse(-3);
        }
        int n = t.length;
        int[][] made = new int[2 * n][2 * n];
        for (int x = 0; x < 2 * n; x++) {
            for (int y = 0; y < 2 * n; y++) {
                int bit = bits >> (n * (x / 2) + y / 2) & 1;
                made[x][y] = 2 * t[x / 2][y / 2] + (x % 2 + y % 2 + bit) % 2;
            }
        }
        set(table, made);
        return fine(2 * n);
    }

    private static Set<Integer> elements(int part) {
        Set<Integer> all = new HashSet<>();
        for (int x = 0; x < 32; x++) {
            if ((part >> x & 1) != 0) {
                all.add(x);
            }
        }
        return all;
    }

    private static boolean isClosed(int[][] t, int part) {
        Set<Integer> all = elements(part);
        if (all.isEmpty() || part >= 1 << t.length) {
            return false;
        }
        for (int x : all) {
            for (int y : all) {
                if (!all.contains(t[x][y])) {
                    return false;
                }
            }
        }
        return true;
    }

    private static List<Set<Integer>> rowsBy(int[][] t, int part) {
        List<Set<Integer>> rows = new ArrayList<>();
        for (int x = 0; x < t.length; x++) {
            Set<Integer> row = new HashSet<>();
            for (int y : elements(part)) {
                row.add(t[x][y]);
            }
            rows.add(row);
        }
        return rows;
    }

    private static int classOf(List<Set<Integer>> rows, int x) {
        for (int i = 0; i < rows.size(); i++) {
            if (rows.get(i).contains(x)) {
                return i;
            }
        }
        throw new IllegalStateException();
    }

    private static boolean isNormal(int[][] t, int part) {
        if (!isClosed(t, part)) {
            return false;
        }
        List<Set<Integer>> rows = rowsBy(t, part);
        for (Set<Integer> one : rows) {
            for (Set<Integer> other : rows) {
                Set<Integer> common = new HashSet<>(one);
                common.retainAll(other);
                if (!common.isEmpty() && !one.equals(other)) {
                    return false;
                }
            }
        }
        int n = t.length;
        for (int x = 0; x < n; x++) {
            for (int u = 0; u < n; u++) {
                for (int y = 0; y < n; y++) {
                    for (int v = 0; v < n; v++) {
                        if (classOf(rows, x) == classOf(rows, u) && classOf(rows, y) == classOf(rows, v)
                                && classOf(rows, t[x][y]) != classOf(rows, t[u][v])) {
                            return false;
                        }
                    }
                }
            }
        }
        return true;
    }

    int quotient(int table, int one, int part) {
        if (!slot(table) || part < 0 || part > 63) {
            return refuse(-1);
        }
        int[][] t = get(one);
        if (t == null) {
            return refuse(-2);
        }
        if (unitOf(t, true, true) == NONE || !isNormal(t, part)) {
            return refuse(-3);
        }
        List<Set<Integer>> rows = rowsBy(t, part);
        List<Integer> classes = new ArrayList<>();
        List<Integer> lowest = new ArrayList<>();
        for (int x = 0; x < t.length; x++) {
            if (!classes.contains(classOf(rows, x))) {
                classes.add(classOf(rows, x));
                lowest.add(x);
            }
        }
        int[][] made = new int[classes.size()][classes.size()];
        for (int i = 0; i < made.length; i++) {
            for (int k = 0; k < made.length; k++) {
                made[i][k] = classes.indexOf(classOf(rows, t[lowest.get(i)][lowest.get(k)]));
            }
        }
        set(table, made);
        return fine(made.length);
    }

    // ---------------------------------------------------------------- 14 to 18

    int undo() {
        if (past.isEmpty()) {
            return refuse(-3);
        }
        Change last = past.remove(past.size() - 1);
        tables[last.table()] = last.before();
        future.add(last);
        return fine(past.size());
    }

    int redo() {
        if (future.isEmpty()) {
            return refuse(-3);
        }
        Change last = future.remove(future.size() - 1);
        tables[last.table()] = last.after();
        past.add(last);
        return fine(future.size());
    }

    int order(int table) {
        return get(table) == null ? NONE : get(table).length;
    }

    int at(int table, int what, int x, int y) {
        int[][] t = get(table);
        if (t == null || !in(x, t) || !in(y, t)) {
            return NONE;
        }
        return what == 0 ? t[x][y] : what == 1 ? under(t, x, y) : what == 2 ? over(t, x, y) : NONE;
    }

    int unit(int table, int what) {
        int[][] t = get(table);
        if (t == null || what < 0 || what > 2) {
            return NONE;
        }
        return unitOf(t, what != 2, what != 1);
    }

    // ---------------------------------------------------------------- 19 to 24

    int law() {
        StringBuilder text = new StringBuilder();
        for (int sign : tape) {
            text.append((char) sign);
        }
        tape.clear();
        if (laws.size() == 8) {
            return refuse(-5);
        }
        RefLaw read = new RefLaw(text.toString());
        fault = read.fault;
        if (fault != NONE) {
            return refuse(-6);
        }
        laws.add(read);
        return fine(laws.size() - 1);
    }

    int fault() {
        return fault;
    }

    private RefLaw getLaw(int law) {
        return law >= 0 && law < laws.size() ? laws.get(law) : null;
    }

    int holds(int table, int law) {
        if (get(table) == null || getLaw(law) == null) {
            return NONE;
        }
        return getLaw(law).failures(get(table), 216).isEmpty() ? 1 : 0;
    }

    int fails(int table, int law, int what) {
        if (get(table) == null || getLaw(law) == null || what < 0 || what > 3) {
            return NONE;
        }
        List<int[]> failures = getLaw(law).failures(get(table), 216);
        return what == 0 ? failures.size() : failures.isEmpty() ? NONE : failures.get(0)[what - 1];
    }

    /** All loops with unit 0 by whole rows, lower rows first. */
    static List<int[][]> loops(int n) {
        List<int[][]> all = new ArrayList<>();
        int[][] t = new int[n][];
        addLoops(t, 0, permutations(n), all);
        return all;
    }

    private static void addLoops(int[][] t, int x, List<int[]> rows, List<int[][]> all) {
        if (x == t.length) {
            all.add(t.clone());
            return;
        }
        for (int[] row : rows) {
            boolean fits = row[0] == x && (x > 0 || row.equals(rows.get(0)));
            for (int above = 0; above < x && fits; above++) {
                for (int y = 0; y < t.length; y++) {
                    fits &= t[above][y] != row[y];
                }
            }
            if (fits) {
                t[x] = row;
                addLoops(t, x + 1, rows, all);
            }
        }
    }

    private static final List<List<int[][]>> LOOPS = new ArrayList<>();

    private List<int[][]> listing(int n, int hold, int not) {
        while (LOOPS.size() < 6) {
            LOOPS.add(loops(LOOPS.size() + 1));
        }
        List<int[][]> all = new ArrayList<>();
        for (int[][] t : LOOPS.get(n - 1)) {
            boolean in = true;
            for (int k = 0; k < laws.size() && in; k++) {
                if (((hold | not) >> k & 1) != 0) {
                    boolean so = laws.get(k).failures(t, 1).isEmpty();
                    in = (so || (hold >> k & 1) == 0) && (!so || (not >> k & 1) == 0);
                }
            }
            if (in) {
                all.add(t);
            }
        }
        return all;
    }

    private boolean lawBits(int bits) {
        return bits >= 0 && bits >> laws.size() == 0;
    }

    int listed(int n, int hold, int not) {
        return n < 1 || n > 6 || !lawBits(hold) || !lawBits(not) ? NONE : listing(n, hold, not).size();
    }

    int find(int table, int n, int hold, int not, int i) {
        if (!slot(table) || n < 1 || n > 6 || !lawBits(hold) || !lawBits(not)) {
            return refuse(-1);
        }
        List<int[][]> all = listing(n, hold, not);
        if (i < 0 || i >= all.size()) {
            return refuse(-3);
        }
        set(table, all.get(i));
        return fine(0);
    }

    // ---------------------------------------------------------------- 25 to 30

    int nucleus(int table, int what) {
        int[][] t = get(table);
        if (t == null || what < 0 || what > 5) {
            return NONE;
        }
        int bits = 0;
        for (int a = 0; a < t.length; a++) {
            boolean left = true;
            boolean middle = true;
            boolean right = true;
            boolean commutes = true;
            for (int x = 0; x < t.length; x++) {
                commutes &= t[a][x] == t[x][a];
                for (int y = 0; y < t.length; y++) {
                    left &= t[a][t[x][y]] == t[t[a][x]][y];
                    middle &= t[x][t[a][y]] == t[t[x][a]][y];
                    right &= t[x][t[y][a]] == t[t[x][y]][a];
                }
            }
            boolean[] is = {left, middle, right, left && middle && right, commutes,
                left && middle && right && commutes};
            bits |= is[what] ? 1 << a : 0;
        }
        return bits;
    }

    int counts(int table, int what) {
        int[][] t = get(table);
        if (t == null || what < 0 || what > 1) {
            return NONE;
        }
        int joined = 0;
        int commuting = 0;
        for (int x = 0; x < t.length; x++) {
            for (int y = 0; y < t.length; y++) {
                commuting += t[x][y] == t[y][x] ? 1 : 0;
                for (int z = 0; z < t.length; z++) {
                    joined += t[x][t[y][z]] == t[t[x][y]][z] ? 1 : 0;
                }
            }
        }
        return what == 0 ? joined : commuting;
    }

    private static int leastClosed(int[][] t, int part) {
        int least = NONE;
        for (int p = 0; p < 1 << t.length; p++) {
            boolean smaller = least == NONE || Integer.bitCount(p) < Integer.bitCount(least);
            if ((p & part) == part && isClosed(t, p) && smaller) {
                least = p;
            }
        }
        return least;
    }

    int closed(int table, int part) {
        int[][] t = get(table);
        return t == null || part < 1 || part >= 1 << t.length ? NONE : leastClosed(t, part);
    }

    int parts(int table, int what) {
        int[][] t = get(table);
        if (t == null || what < 0 || what > 1 || what == 1 && unitOf(t, true, true) == NONE) {
            return NONE;
        }
        int found = 0;
        for (int p = 0; p < 1 << t.length; p++) {
            found += (what == 0 ? isClosed(t, p) : isNormal(t, p)) ? 1 : 0;
        }
        return found;
    }

    int makers(int table, int what) {
        int[][] t = get(table);
        if (t == null || what < 0 || what > 1) {
            return NONE;
        }
        for (int size = 1; size <= t.length; size++) {
            for (int p = 1; p < 1 << t.length; p++) {
                if (Integer.bitCount(p) == size && leastClosed(t, p) == (1 << t.length) - 1) {
                    return what == 0 ? size : p;
                }
            }
        }
        throw new IllegalStateException();
    }

    int group(int table, int what) {
        int[][] t = get(table);
        if (t == null || what < 0 || what > 2) {
            return NONE;
        }
        List<int[]> makers = new ArrayList<>();
        for (int a = 0; a < t.length; a++) {
            int[] column = new int[t.length];
            for (int x = 0; x < t.length; x++) {
                column[x] = t[x][a];
            }
            if (what != 1) {
                makers.add(t[a]);
            }
            if (what != 0) {
                makers.add(column);
            }
        }
        Set<List<Integer>> known = new HashSet<>();
        List<int[]> all = new ArrayList<>(makers);
        for (int[] p : makers) {
            known.add(listOf(p));
        }
        for (int i = 0; i < all.size(); i++) {
            for (int[] g : makers) {
                int[] p = new int[t.length];
                for (int x = 0; x < p.length; x++) {
                    p[x] = all.get(i)[g[x]];
                }
                if (known.add(listOf(p))) {
                    all.add(p);
                }
            }
        }
        return known.size();
    }

    private static List<Integer> listOf(int[] p) {
        List<Integer> all = new ArrayList<>();
        for (int v : p) {
            all.add(v);
        }
        return all;
    }

    // ---------------------------------------------------------------- 31 to 37

    /**
     * The first of all isotopic tables. Rows p and columns q are tried all; the elements' renaming
     * that makes the first row 0, 1, .. is then the best there is.
     */
    private static int[][] isotopicName(int[][] t) {
        int n = t.length;
        int[][] best = null;
        List<int[]> all = permutations(n);
        int[] r = new int[n];
        for (int[] p : all) {
            for (int[] q : all) {
                for (int y = 0; y < n; y++) {
                    r[t[p[0]][q[y]]] = y;
                }
                if (best == null || lower(t, p, q, r, best)) {
                    best = new int[n][n];
                    for (int x = 0; x < n; x++) {
                        for (int y = 0; y < n; y++) {
                            best[x][y] = r[t[p[x]][q[y]]];
                        }
                    }
                }
            }
        }
        return best;
    }

    private static boolean lower(int[][] t, int[] p, int[] q, int[] r, int[][] best) {
        for (int x = 1; x < t.length; x++) {
            for (int y = 0; y < t.length; y++) {
                int value = r[t[p[x]][q[y]]];
                if (value != best[x][y]) {
                    return value < best[x][y];
                }
            }
        }
        return false;
    }

    private static int[][] nameOf(int[][] t, int likeness) {
        int[][] best = null;
        if (likeness == 0) {
            for (int[] p : permutations(t.length)) {
                int[][] other = renamed(t, p);
                best = best == null || compare(other, best) < 0 ? other : best;
            }
            return best;
        }
        for (int which = 0; which < (likeness == 1 ? 1 : 6); which++) {
            int[][] other = isotopicName(conjugateOf(t, which));
            best = best == null || compare(other, best) < 0 ? other : best;
        }
        return best;
    }

    private int[][] namedTable = null;
    private int namedBy = NONE;
    private int[][] theName = null;

    int name(int table, int likeness, int i) {
        int[][] t = get(table);
        if (t == null || likeness < 0 || likeness > 2 || i < 0 || i >= t.length * t.length) {
            return NONE;
        }
        if (namedTable != t || namedBy != likeness) {
            theName = nameOf(t, likeness);
            namedTable = t;
            namedBy = likeness;
        }
        return theName[i / t.length][i % t.length];
    }

    /** By trying p and q; r is told by the cells then, or there is none. */
    private static int isotopies(int[][] s, int[][] t, boolean first) {
        int n = s.length;
        int found = 0;
        List<int[]> all = permutations(n);
        int[] r = new int[n];
        for (int[] p : all) {
            for (int[] q : all) {
                for (int y = 0; y < n; y++) {
                    r[s[0][y]] = t[p[0]][q[y]];
                }
                boolean is = true;
                for (int x = 1; x < n && is; x++) {
                    for (int y = 0; y < n && is; y++) {
                        is = r[s[x][y]] == t[p[x]][q[y]];
                    }
                }
                found += is ? 1 : 0;
                if (is && first) {
                    return found;
                }
            }
        }
        return found;
    }

    private static int isomorphisms(int[][] s, int[][] t) {
        int found = 0;
        for (int[] p : permutations(s.length)) {
            found += compare(renamed(s, p), t) == 0 ? 1 : 0;
        }
        return found;
    }

    int alike(int one, int other, int likeness) {
        int[][] s = get(one);
        int[][] t = get(other);
        if (s == null || t == null || likeness < 0 || likeness > 2) {
            return NONE;
        }
        if (s.length != t.length) {
            return 0;
        }
        if (likeness == 0) {
            return isomorphisms(s, t) > 0 ? 1 : 0;
        }
        for (int which = 0; which < (likeness == 1 ? 1 : 6); which++) {
            if (isotopies(s, conjugateOf(t, which), true) > 0) {
                return 1;
            }
        }
        return 0;
    }

    int autos(int table, int what) {
        int[][] t = get(table);
        if (t == null || what < 0 || what > 1) {
            return NONE;
        }
        return what == 0 ? isomorphisms(t, t) : isotopies(t, t, false);
    }

    private static List<int[]> transversals(int[][] t) {
        List<int[]> all = new ArrayList<>();
        for (int[] p : permutations(t.length)) {
            Set<Integer> seen = new HashSet<>();
            for (int x = 0; x < p.length; x++) {
                seen.add(t[x][p[x]]);
            }
            if (seen.size() == p.length) {
                all.add(p);
            }
        }
        return all;
    }

    /** In how many ways rows of transversals from one on can be added so that no cell is in two. */
    private static int shares(List<int[]> all, int from, List<int[]> chosen, int n) {
        if (chosen.size() == n) {
            return 1;
        }
        int found = 0;
        for (int i = from; i < all.size(); i++) {
            boolean clear = true;
            for (int[] other : chosen) {
                for (int x = 0; x < n; x++) {
                    clear &= other[x] != all.get(i)[x];
                }
            }
            if (clear) {
                chosen.add(all.get(i));
                found += shares(all, i + 1, chosen, n);
                chosen.remove(chosen.size() - 1);
            }
        }
        return found;
    }

    int crossings(int table, int what) {
        int[][] t = get(table);
        if (t == null || what < 0 || what > 2) {
            return NONE;
        }
        if (what < 2) {
            List<int[]> all = transversals(t);
            return what == 0 ? all.size() : shares(all, 0, new ArrayList<>(), t.length);
        }
        int found = 0;
        for (int a = 0; a < t.length; a++) {
            for (int b = a + 1; b < t.length; b++) {
                for (int c = 0; c < t.length; c++) {
                    for (int d = c + 1; d < t.length; d++) {
                        Set<Integer> seen = new HashSet<>(List.of(t[a][c], t[a][d], t[b][c], t[b][d]));
                        found += seen.size() == 2 ? 1 : 0;
                    }
                }
            }
        }
        return found;
    }

    int cycles(int table, int a, int b, int what) {
        int[][] t = get(table);
        if (t == null || !in(a, t) || !in(b, t) || a == b || what < 0 || what > 1) {
            return NONE;
        }
        Set<Set<Integer>> all = new HashSet<>();
        int longest = 0;
        for (int c = 0; c < t.length; c++) {
            List<Integer> columns = cycleOf(t, a, b, c);
            all.add(new HashSet<>(columns));
            longest = Math.max(longest, columns.size());
        }
        return what == 0 ? all.size() : longest;
    }

    int apart(int one, int other) {
        int[][] s = get(one);
        int[][] t = get(other);
        return s == null || t == null || s.length != t.length ? NONE : apart(s, t);
    }

    private static final List<List<int[][]>> GROUPS = new ArrayList<>();

    /** All tables of groups: loops with unit 0 that join, renamed in all ways. */
    private static List<int[][]> groups(int n) {
        while (GROUPS.size() < n) {
            List<int[][]> all = new ArrayList<>();
            Set<String> known = new HashSet<>();
            for (int[][] t : loops(GROUPS.size() + 1)) {
                if (joins(t)) {
                    for (int[] p : permutations(t.length)) {
                        int[][] other = renamed(t, p);
                        if (known.add(Arrays.deepToString(other))) {
                            all.add(other);
                        }
                    }
                }
            }
            GROUPS.add(all);
        }
        return GROUPS.get(n - 1);
    }

    private static boolean joins(int[][] t) {
        for (int x = 0; x < t.length; x++) {
            for (int y = 0; y < t.length; y++) {
                for (int z = 0; z < t.length; z++) {
                    if (t[x][t[y][z]] != t[t[x][y]][z]) {
                        return false;
                    }
                }
            }
        }
        return true;
    }

    int near(int table, int what) {
        int[][] t = get(table);
        if (t == null || what < 0 || what > 1) {
            return NONE;
        }
        int least = 37;
        int found = 0;
        for (int[][] g : groups(t.length)) {
            int d = apart(g, t);
            found = d < least ? 1 : d == least ? found + 1 : found;
            least = Math.min(least, d);
        }
        return what == 0 ? least : found;
    }

    // ---------------------------------------------------------------- 38 to 42

    int board(int n) {
        if (n < 1 || n > 6) {
            return refuse(-1);
        }
        clueSize = n;
        clues = new int[n][n];
        for (int[] row : clues) {
            Arrays.fill(row, NONE);
        }
        return fine(0);
    }

    int clue(int x, int y, int value) {
        if (x < 0 || y < 0 || x >= clueSize || y >= clueSize || value < -1 || value >= clueSize) {
            return refuse(-1);
        }
        int was = clues[x][y];
        clues[x][y] = value;
        return fine(was);
    }

    /** Row by row with all that is told looked at; the first that is found is kept. */
    private int fillings(int[][] t, int cell, int limit, int[][][] first) {
        int n = t.length;
        if (cell == n * n) {
            if (first[0] == null) {
                first[0] = new int[n][];
                for (int x = 0; x < n; x++) {
                    first[0][x] = t[x].clone();
                }
            }
            return 1;
        }
        int x = cell / n;
        int y = cell % n;
        if (clues[x][y] != NONE) {
            return fillings(t, cell + 1, limit, first);
        }
        int found = 0;
        for (int value = 0; value < n && found < limit; value++) {
            if (fits(t, x, y, value)) {
                t[x][y] = value;
                if (allCanBe(t)) {
                    found += fillings(t, cell + 1, limit - found, first);
                }
                t[x][y] = NONE;
            }
        }
        return found;
    }

    private static boolean fits(int[][] t, int x, int y, int value) {
        for (int i = 0; i < t.length; i++) {
            if (i != y && t[x][i] == value || i != x && t[i][y] == value) {
                return false;
            }
        }
        return true;
    }

    private static boolean allCanBe(int[][] t) {
        for (int x = 0; x < t.length; x++) {
            for (int y = 0; y < t.length; y++) {
                if (t[x][y] == NONE) {
                    boolean can = false;
                    for (int value = 0; value < t.length && !can; value++) {
                        can = fits(t, x, y, value);
                    }
                    if (!can) {
                        return false;
                    }
                }
            }
        }
        return true;
    }

    private int fillings(int limit, int[][][] first) {
        int[][] t = new int[clueSize][];
        for (int x = 0; x < clueSize; x++) {
            t[x] = clues[x].clone();
        }
        for (int x = 0; x < clueSize; x++) {
            for (int y = 0; y < clueSize; y++) {
                if (t[x][y] != NONE && !fits(t, x, y, t[x][y])) {
                    return 0;
                }
            }
        }
        return fillings(t, 0, limit, first);
    }

    int filled() {
        return clueSize == 0 ? NONE : fillings(20000, new int[1][][]);
    }

    int fill(int table) {
        if (!slot(table)) {
            return refuse(-1);
        }
        int[][][] first = new int[1][][];
        if (clueSize == 0 || fillings(1, first) == 0) {
            return refuse(-3);
        }
        set(table, first[0]);
        return fine(clueSize);
    }

    int spare(int x, int y) {
        if (x < 0 || y < 0 || x >= clueSize || y >= clueSize || clues[x][y] == NONE) {
            return NONE;
        }
        int with = filled();
        int value = clues[x][y];
        clues[x][y] = NONE;
        int without = filled();
        clues[x][y] = value;
        return with == without ? 1 : 0;
    }

    // ---------------------------------------------------------------- 43 to 48

    int walk(int table, int seed, int steps) {
        if (seed < 0 || seed > 1000000 || steps < 0 || steps > 200) {
            return refuse(-1);
        }
        int[][] t = get(table);
        if (t == null) {
            return refuse(-2);
        }
        int n = t.length;
        if (n == 1) {
            return refuse(-3);
        }
        long s = seed;
        int[][] u = t;
        for (int i = 0; i < steps; i++) {
            s = (s * 1103L + 12345L) % 1000003L;
            int a = (int) (s % n);
            s = (s * 1103L + 12345L) % 1000003L;
            int b = (int) (s % (n - 1));
            b = b < a ? b : b + 1;
            s = (s * 1103L + 12345L) % 1000003L;
            u = switched(u, a, b, cycleOf(u, a, b, (int) (s % n)));
        }
        walked = u;
        return fine(apart(t, u));
    }

    int drawn(int x, int y) {
        return walked == null || !in(x, walked) || !in(y, walked) ? NONE : walked[x][y];
    }

    private static int[][] deep(int[][] t) {
        int[][] all = new int[t.length][];
        for (int x = 0; x < t.length; x++) {
            all[x] = t[x].clone();
        }
        return all;
    }

    int image(int k) {
        if (k < 0 || k > 1) {
            return refuse(-1);
        }
        // Tables are never changed in place, so the references are enough.
        images[k] = new Object[] {tables.clone(), List.copyOf(laws), clueSize, deep(clues),
            List.copyOf(past), List.copyOf(future)};
        return fine(0);
    }

    @SuppressWarnings("unchecked")
    int back(int k) {
        if (k < 0 || k > 1) {
            return refuse(-1);
        }
        if (images[k] == null) {
            return refuse(-2);
        }
        tables = ((int[][][]) images[k][0]).clone();
        laws = new ArrayList<>((List<RefLaw>) images[k][1]);
        clueSize = (Integer) images[k][2];
        clues = deep((int[][]) images[k][3]);
        past = new ArrayList<>((List<Change>) images[k][4]);
        future = new ArrayList<>((List<Change>) images[k][5]);
        return fine(0);
    }

    int count(int what) {
        int there = 0;
        for (int[][] t : tables) {
            there += t != null ? 1 : 0;
        }
        int told = 0;
        for (int[] row : clues) {
            for (int value : row) {
                told += value != NONE ? 1 : 0;
            }
        }
        int[] all = {there, laws.size(), clueSize, told, tape.size(), refused[1], refused[2],
            refused[3], refused[5], refused[6], past.size(), future.size()};
        return what < 0 || what >= all.length ? NONE : all[what];
    }

    int status() {
        return status;
    }
}
