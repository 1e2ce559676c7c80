import java.util.Arrays;

/**
 * Latin tables of up to six elements and the laws told of them. What each public method answers
 * is promised by the document; nothing here throws, and what each call needs is made once.
 */
public final class LoopTables {

    public static final int NONE = -1;

    private static final int TABLES = 6;
    private static final int GREATEST = 6;
    private static final int CELLS = 36;
    private static final int TRIPLES = 216;
    private static final int LAWS = 8;
    private static final int IMAGES = 2;
    private static final int CHANGES = 30;
    private static final int CONJUGATES = 6;
    private static final int TAPE = 400;
    private static final int FILLINGS = 20000;
    private static final int SEEDS = 1000000;
    private static final int STEPS = 200;

    private static final int BAD_NUMBER = -1;
    private static final int NO_SUCH = -2;
    private static final int NOT_NOW = -3;
    private static final int NO_ROOM = -5;
    private static final int BAD_TEXT = -6;

    private static final int ISOMORPHIC = 0;
    private static final int ISOTOPIC = 1;
    private static final int PARATOPIC = 2;

    private static final int[] FACTORIALS = {1, 1, 2, 6, 24, 120, 720};

    private final State state = new State();
    private final State[] images = new State[IMAGES];
    private final int[] tape = new int[TAPE];
    private int tapeLength;
    private final LawReader reader = new LawReader();
    private int faultPlace = NONE;
    private final Table draft = new Table();
    private final Table walked = new Table();
    private final Checker checker = new Checker();
    private final Lister lister = new Lister();
    private final Filler filler = new Filler();
    private final Namer namer = new Namer();
    private final Namer otherNamer = new Namer();
    private final Permutations permutations = new Permutations();
    private final Crossings crosser = new Crossings();
    private final int[] refusals = new int[1 - BAD_TEXT];
    private int latest;

    public LoopTables() {
    }

    // ---- the tape ----

    public int feed(int a, int b, int c, int d, int e) {
        if (tapeLength + 20 > TAPE) {
            return NONE;
        }
        putWord(a);
        putWord(b);
        putWord(c);
        putWord(d);
        putWord(e);
        return tapeLength;
    }

    private void putWord(int word) {
        for (int shift = 24; shift >= 0; shift -= 8) {
            if (tapeLength < TAPE) {
                tape[tapeLength] = (word >> shift) & 255;
                tapeLength++;
            }
        }
    }

    public int end(int n) {
        if (n < 0 || n > tapeLength) {
            return NONE;
        }
        tapeLength = n;
        return n;
    }

    // ---- tables that are made ----

    public int row(int table) {
        if (!isPlace(table)) {
            return refuse(BAD_NUMBER);
        }
        boolean read = readRow();
        tapeLength = 0;
        return read ? change(table, draft.size) : refuse(BAD_TEXT);
    }

    private boolean readRow() {
        int n = tapeLength > 0 ? tape[0] : 0;
        if (!isSize(n) || tapeLength != 1 + n * n) {
            return false;
        }
        draft.size = n;
        System.arraycopy(tape, 1, draft.cells, 0, n * n);
        return draft.isLatin();
    }

    public int cyclic(int table, int n) {
        if (!isPlace(table) || !isSize(n)) {
            return refuse(BAD_NUMBER);
        }
        draft.makeCyclic(n);
        return change(table, n);
    }

    public int copy(int table, int other) {
        if (!isPlace(table)) {
            return refuse(BAD_NUMBER);
        }
        if (!has(other)) {
            return refuse(NO_SUCH);
        }
        draft.become(state.tables[other]);
        return change(table, draft.size);
    }

    public int isotope(int table, int a, int b) {
        if (!has(table)) {
            return refuse(NO_SUCH);
        }
        Table from = state.tables[table];
        if (!from.hasElement(a) || !from.hasElement(b)) {
            return refuse(BAD_NUMBER);
        }
        int unit = from.times(a, b);
        draft.makeIsotope(from, a, b);
        return change(table, unit);
    }

    public int conjugate(int table, int which) {
        if (!has(table)) {
            return refuse(NO_SUCH);
        }
        if (which < 0 || which >= CONJUGATES) {
            return refuse(BAD_NUMBER);
        }
        draft.makeConjugate(state.tables[table], which);
        return change(table, 0);
    }

    public int rename(int table, int permutation) {
        if (!has(table)) {
            return refuse(NO_SUCH);
        }
        Table from = state.tables[table];
        if (permutation < 0 || permutation >= FACTORIALS[from.size]) {
            return refuse(BAD_NUMBER);
        }
        permutations.makeRenamed(draft, from, permutation);
        return change(table, 0);
    }

    public int turn(int table, int a, int b, int column) {
        if (!has(table)) {
            return refuse(NO_SUCH);
        }
        Table from = state.tables[table];
        if (!from.hasTwoRows(a, b) || !from.hasElement(column)) {
            return refuse(BAD_NUMBER);
        }
        draft.become(from);
        int columns = draft.cycleFrom(a, b, column);
        draft.switchRows(a, b, columns);
        return change(table, Integer.bitCount(columns));
    }

    public int product(int table, int one, int other) {
        if (!isPlace(table)) {
            return refuse(BAD_NUMBER);
        }
        if (!has(one) || !has(other)) {
            return refuse(NO_SUCH);
        }
        if (state.tables[one].size * state.tables[other].size > GREATEST) {
            return refuse(NOT_NOW);
        }
        draft.makeProduct(state.tables[one], state.tables[other]);
        return change(table, draft.size);
    }

    public int extend(int table, int one, int bits) {
        if (!isPlace(table) || bits < 0 || bits > 511) {
            return refuse(BAD_NUMBER);
        }
        if (!has(one)) {
            return refuse(NO_SUCH);
        }
        if (2 * state.tables[one].size > GREATEST) {
            return refuse(NOT_NOW);
        }
        draft.makeExtended(state.tables[one], bits);
        return change(table, draft.size);
    }

    public int quotient(int table, int one, int part) {
        if (!isPlace(table) || part < 0 || part > 63) {
            return refuse(BAD_NUMBER);
        }
        if (!has(one)) {
            return refuse(NO_SUCH);
        }
        Table from = state.tables[one];
        if (from.unitElement() == NONE || !Parts.isNormal(from, part)) {
            return refuse(NOT_NOW);
        }
        Parts.makeQuotient(draft, from, part);
        return change(table, draft.size);
    }

    // ---- acts undone and redone ----

    public int undo() {
        if (state.done == 0) {
            return refuse(NOT_NOW);
        }
        state.stepBack();
        return accept(state.done);
    }

    public int redo() {
        if (state.undone == 0) {
            return refuse(NOT_NOW);
        }
        state.stepOn();
        return accept(state.undone);
    }

    // ---- what a table has ----

    public int order(int table) {
        return has(table) ? state.tables[table].size : NONE;
    }

    public int at(int table, int what, int x, int y) {
        if (!has(table)) {
            return NONE;
        }
        Table asked = state.tables[table];
        if (!asked.hasElement(x) || !asked.hasElement(y)) {
            return NONE;
        }
        switch (what) {
            case 0:
                return asked.times(x, y);
            case 1:
                return asked.under(x, y);
            case 2:
                return asked.over(x, y);
            default:
                return NONE;
        }
    }

    public int unit(int table, int what) {
        if (!has(table) || what < 0 || what > 2) {
            return NONE;
        }
        return state.tables[table].unitFrom(what != 2, what != 1);
    }

    // ---- laws ----

    public int law() {
        int length = tapeLength;
        tapeLength = 0;
        if (state.lawCount >= LAWS) {
            return refuse(NO_ROOM);
        }
        Law told = reader.readLaw(tape, length);
        if (told == null) {
            faultPlace = reader.place();
            return refuse(BAD_TEXT);
        }
        faultPlace = NONE;
        state.laws[state.lawCount] = told;
        state.lawCount++;
        return accept(state.lawCount - 1);
    }

    public int fault() {
        return faultPlace;
    }

    public int holds(int table, int law) {
        if (!has(table) || !hasLaw(law)) {
            return NONE;
        }
        checker.look(state.tables[table], state.tables[table].unitElement());
        return checker.failures(state.laws[law], 1) == 0 ? 1 : 0;
    }

    public int fails(int table, int law, int what) {
        if (!has(table) || !hasLaw(law) || what < 0 || what > 3) {
            return NONE;
        }
        checker.look(state.tables[table], state.tables[table].unitElement());
        if (what == 0) {
            return checker.failures(state.laws[law], TRIPLES);
        }
        int found = checker.failures(state.laws[law], 1);
        return found == 0 ? NONE : checker.letterValue(what - 1);
    }

    public int listed(int n, int hold, int not) {
        if (!isSize(n) || !areLaws(hold) || !areLaws(not)) {
            return NONE;
        }
        lister.choose(state.laws, hold, not);
        lister.seek(n, NONE);
        return lister.found;
    }

    public int find(int table, int n, int hold, int not, int i) {
        if (!isPlace(table) || !isSize(n) || !areLaws(hold) || !areLaws(not)) {
            return refuse(BAD_NUMBER);
        }
        lister.choose(state.laws, hold, not);
        if (i < 0 || !lister.seek(n, i)) {
            return refuse(NOT_NOW);
        }
        draft.become(lister.loop);
        return change(table, 0);
    }

    // ---- parts and groups ----

    public int nucleus(int table, int what) {
        return has(table) ? Parts.nucleusBits(state.tables[table], what) : NONE;
    }

    public int counts(int table, int what) {
        if (!has(table)) {
            return NONE;
        }
        switch (what) {
            case 0:
                return Parts.joinedAlike(state.tables[table]);
            case 1:
                return Parts.commuting(state.tables[table]);
            default:
                return NONE;
        }
    }

    public int closed(int table, int part) {
        if (!has(table) || !state.tables[table].hasPart(part)) {
            return NONE;
        }
        return Parts.leastClosed(state.tables[table], part);
    }

    public int parts(int table, int what) {
        if (!has(table) || what < 0 || what > 1) {
            return NONE;
        }
        boolean normal = what == 1;
        if (normal && state.tables[table].unitElement() == NONE) {
            return NONE;
        }
        return Parts.closedOnes(state.tables[table], normal);
    }

    public int makers(int table, int what) {
        if (!has(table) || what < 0 || what > 1) {
            return NONE;
        }
        int part = Parts.fewestMakers(state.tables[table]);
        return what == 0 ? Integer.bitCount(part) : part;
    }

    public int group(int table, int what) {
        if (!has(table) || what < 0 || what > 2) {
            return NONE;
        }
        return permutations.madeBy(state.tables[table], what != 1, what != 0);
    }

    // ---- likeness ----

    public int name(int table, int likeness, int i) {
        if (!has(table) || !isLikeness(likeness)) {
            return NONE;
        }
        Table asked = state.tables[table];
        if (i < 0 || i >= asked.size * asked.size) {
            return NONE;
        }
        return namer.nameOf(asked, likeness).cells[i];
    }

    public int alike(int one, int other, int likeness) {
        if (!has(one) || !has(other) || !isLikeness(likeness)) {
            return NONE;
        }
        if (state.tables[one].size != state.tables[other].size) {
            return 0;
        }
        Table name = namer.nameOf(state.tables[one], likeness);
        Table otherName = otherNamer.nameOf(state.tables[other], likeness);
        return name.differences(otherName) == 0 ? 1 : 0;
    }

    public int autos(int table, int what) {
        if (!has(table)) {
            return NONE;
        }
        switch (what) {
            case 0:
                return permutations.automorphisms(state.tables[table]);
            case 1:
                return permutations.autotopies(state.tables[table]);
            default:
                return NONE;
        }
    }

    public int crossings(int table, int what) {
        if (!has(table)) {
            return NONE;
        }
        switch (what) {
            case 0:
                return crosser.transversals(state.tables[table]);
            case 1:
                return crosser.mates(state.tables[table]);
            case 2:
                return Crossings.squares(state.tables[table]);
            default:
                return NONE;
        }
    }

    public int cycles(int table, int a, int b, int what) {
        if (!has(table) || !state.tables[table].hasTwoRows(a, b)) {
            return NONE;
        }
        switch (what) {
            case 0:
                return state.tables[table].cycleCount(a, b);
            case 1:
                return state.tables[table].longestCycle(a, b);
            default:
                return NONE;
        }
    }

    public int apart(int one, int other) {
        if (!has(one) || !has(other) || state.tables[one].size != state.tables[other].size) {
            return NONE;
        }
        return state.tables[one].differences(state.tables[other]);
    }

    public int near(int table, int what) {
        if (!has(table) || what < 0 || what > 1) {
            return NONE;
        }
        permutations.seekGroups(state.tables[table]);
        return what == 0 ? permutations.nearest : permutations.nearestCount;
    }

    // ---- clues ----

    public int board(int n) {
        if (!isSize(n)) {
            return refuse(BAD_NUMBER);
        }
        state.clueSize = n;
        Arrays.fill(state.clues, NONE);
        return accept(0);
    }

    public int clue(int x, int y, int value) {
        int n = state.clueSize;
        if (!isClueCell(x, y) || value < NONE || value >= n) {
            return refuse(BAD_NUMBER);
        }
        int was = state.clues[n * x + y];
        state.clues[n * x + y] = value;
        return accept(was);
    }

    public int filled() {
        return state.clueSize == 0 ? NONE : filler.tally(state.clueSize, state.clues, FILLINGS);
    }

    public int fill(int table) {
        if (!isPlace(table)) {
            return refuse(BAD_NUMBER);
        }
        boolean found = filler.makeFirst(draft, state.clueSize, state.clues);
        return found ? change(table, draft.size) : refuse(NOT_NOW);
    }

    public int spare(int x, int y) {
        if (!isClueCell(x, y)) {
            return NONE;
        }
        int cell = state.clueSize * x + y;
        int value = state.clues[cell];
        if (value == NONE) {
            return NONE;
        }
        int with = filler.tally(state.clueSize, state.clues, FILLINGS);
        if (with >= FILLINGS) {
            return 1;
        }
        state.clues[cell] = NONE;
        // One more than with the clue is enough to tell that there are more.
        int without = filler.tally(state.clueSize, state.clues, with + 1);
        state.clues[cell] = value;
        return without == with ? 1 : 0;
    }

    // ---- walks ----

    public int walk(int table, int seed, int steps) {
        if (seed < 0 || seed > SEEDS || steps < 0 || steps > STEPS) {
            return refuse(BAD_NUMBER);
        }
        if (!has(table)) {
            return refuse(NO_SUCH);
        }
        Table from = state.tables[table];
        int n = from.size;
        if (n < 2) {
            return refuse(NOT_NOW);
        }
        walked.become(from);
        int s = seed;
        for (int step = 0; step < steps; step++) {
            s = drawAfter(s);
            int a = s % n;
            s = drawAfter(s);
            int b = s % (n - 1);
            if (b >= a) {
                b++;
            }
            s = drawAfter(s);
            walked.switchRows(a, b, walked.cycleFrom(a, b, s % n));
        }
        return accept(walked.differences(from));
    }

    private static int drawAfter(int s) {
        return (s * 1103 + 12345) % 1000003;
    }

    public int drawn(int x, int y) {
        return walked.hasElement(x) && walked.hasElement(y) ? walked.times(x, y) : NONE;
    }

    // ---- images ----

    public int image(int k) {
        if (k < 0 || k >= IMAGES) {
            return refuse(BAD_NUMBER);
        }
        if (images[k] == null) {
            images[k] = new State();
        }
        images[k].become(state);
        return accept(0);
    }

    public int back(int k) {
        if (k < 0 || k >= IMAGES) {
            return refuse(BAD_NUMBER);
        }
        if (images[k] == null) {
            return refuse(NO_SUCH);
        }
        state.become(images[k]);
        return accept(0);
    }

    // ---- how it stands ----

    public int count(int what) {
        switch (what) {
            case 0:
                return state.tableCount();
            case 1:
                return state.lawCount;
            case 2:
                return state.clueSize;
            case 3:
                return state.clueCount();
            case 4:
                return tapeLength;
            case 5:
                return refusals[-BAD_NUMBER];
            case 6:
                return refusals[-NO_SUCH];
            case 7:
                return refusals[-NOT_NOW];
            case 8:
                return refusals[-NO_ROOM];
            case 9:
                return refusals[-BAD_TEXT];
            case 10:
                return state.done;
            case 11:
                return state.undone;
            default:
                return NONE;
        }
    }

    public int status() {
        return latest;
    }

    // ---- what the calls share ----

    private static boolean isPlace(int table) {
        return table >= 0 && table < TABLES;
    }

    private static boolean isSize(int n) {
        return n >= 1 && n <= GREATEST;
    }

    private static boolean isLikeness(int likeness) {
        return likeness >= ISOMORPHIC && likeness <= PARATOPIC;
    }

    private boolean has(int table) {
        return isPlace(table) && state.tables[table].size > 0;
    }

    private boolean hasLaw(int law) {
        return law >= 0 && law < state.lawCount;
    }

    private boolean areLaws(int bits) {
        return bits >= 0 && bits < 1 << state.lawCount;
    }

    private boolean isClueCell(int x, int y) {
        return x >= 0 && x < state.clueSize && y >= 0 && y < state.clueSize;
    }

    private int refuse(int code) {
        latest = code;
        refusals[-code]++;
        return code;
    }

    private int accept(int answer) {
        latest = 0;
        return answer;
    }

    private int change(int table, int answer) {
        state.putInPlace(table, draft);
        return accept(answer);
    }

    /** To the next permutation of the entries from a first place on; behind the last comes the first. */
    private static void permuteOn(int[] p, int first, int n) {
        int fall = n - 1;
        while (fall > first && p[fall - 1] > p[fall]) {
            fall--;
        }
        for (int low = fall, high = n - 1; low < high; low++, high--) {
            exchange(p, low, high);
        }
        if (fall <= first) {
            return;
        }
        int greater = fall;
        while (greater < n - 1 && p[greater] < p[fall - 1]) {
            greater++;
        }
        exchange(p, fall - 1, greater);
    }

    private static void exchange(int[] p, int i, int k) {
        int kept = p[i];
        p[i] = p[k];
        p[k] = kept;
    }

    private static void startPermutation(int[] p) {
        for (int i = 0; i < p.length; i++) {
            p[i] = i;
        }
    }

    /**
     * A latin table; one of size 0 stands for none. A table that is made from others is never one
     * of these.
     */
    private static final class Table {
        int size;
        final int[] cells = new int[CELLS];

        boolean hasElement(int x) {
            return x >= 0 && x < size;
        }

        boolean hasTwoRows(int a, int b) {
            return a != b && hasElement(a) && hasElement(b);
        }

        boolean hasPart(int part) {
            return part > 0 && part < 1 << size;
        }

        int times(int x, int y) {
            return cells[size * x + y];
        }

        int under(int x, int y) {
            for (int z = 0; z < size; z++) {
                if (times(x, z) == y) {
                    return z;
                }
            }
            return NONE;
        }

        int over(int x, int y) {
            for (int z = 0; z < size; z++) {
                if (times(z, y) == x) {
                    return z;
                }
            }
            return NONE;
        }

        void put(int x, int y, int value) {
            cells[size * x + y] = value;
        }

        void become(Table other) {
            size = other.size;
            System.arraycopy(other.cells, 0, cells, 0, CELLS);
        }

        void makeCyclic(int n) {
            size = n;
            for (int x = 0; x < n; x++) {
                for (int y = 0; y < n; y++) {
                    put(x, y, x + y < n ? x + y : x + y - n);
                }
            }
        }

        /** The other group of a size that has two (4 and 6): turns, and turns behind a flip. */
        void makeOtherGroup(int n) {
            int half = Math.max(n / 2, 1);
            size = n;
            for (int x = 0; x < n; x++) {
                for (int y = 0; y < n; y++) {
                    int turned = x < half ? x + y : x + n - y;
                    boolean flipped = (x < half) != (y < half);
                    put(x, y, flipped ? half + turned % half : turned % half);
                }
            }
        }

        void makeIsotope(Table from, int a, int b) {
            size = from.size;
            for (int x = 0; x < size; x++) {
                int left = from.over(x, b);
                for (int z = 0; z < size; z++) {
                    put(x, from.times(a, z), from.times(left, z));
                }
            }
        }

        void makeConjugate(Table from, int which) {
            size = from.size;
            for (int x = 0; x < size; x++) {
                for (int y = 0; y < size; y++) {
                    putConjugate(which, x, y, from.times(x, y));
                }
            }
        }

        private void putConjugate(int which, int x, int y, int z) {
            switch (which) {
                case 1:
                    put(y, x, z);
                    break;
                case 2:
                    put(x, z, y);
                    break;
                case 3:
                    put(z, x, y);
                    break;
                case 4:
                    put(y, z, x);
                    break;
                case 5:
                    put(z, y, x);
                    break;
                default:
                    put(x, y, z);
                    break;
            }
        }

        void makeProduct(Table one, Table other) {
            int m = other.size;
            size = one.size * m;
            for (int i = 0; i < one.size; i++) {
                for (int j = 0; j < one.size; j++) {
                    for (int k = 0; k < m; k++) {
                        for (int l = 0; l < m; l++) {
                            put(m * i + k, m * j + l, m * one.times(i, j) + other.times(k, l));
                        }
                    }
                }
            }
        }

        void makeExtended(Table from, int bits) {
            int n = from.size;
            size = 2 * n;
            for (int x = 0; x < n; x++) {
                for (int y = 0; y < n; y++) {
                    int even = 2 * from.times(x, y);
                    int bit = bits >> (n * x + y) & 1;
                    put(2 * x, 2 * y, even + bit);
                    put(2 * x + 1, 2 * y + 1, even + bit);
                    put(2 * x, 2 * y + 1, even + 1 - bit);
                    put(2 * x + 1, 2 * y, even + 1 - bit);
                }
            }
        }

        boolean isLatin() {
            int all = (1 << size) - 1;
            for (int x = 0; x < size; x++) {
                int inRow = 0;
                int inColumn = 0;
                for (int y = 0; y < size; y++) {
                    if (!hasElement(times(x, y)) || !hasElement(times(y, x))) {
                        return false;
                    }
                    inRow |= 1 << times(x, y);
                    inColumn |= 1 << times(y, x);
                }
                if (inRow != all || inColumn != all) {
                    return false;
                }
            }
            return true;
        }

        /** The element that leaves all as they are from the left, from the right, or both. */
        int unitFrom(boolean left, boolean right) {
            for (int e = 0; e < size; e++) {
                int x = 0;
                while (x < size && (!left || times(e, x) == x) && (!right || times(x, e) == x)) {
                    x++;
                }
                if (x == size) {
                    return e;
                }
            }
            return NONE;
        }

        int unitElement() {
            return unitFrom(true, true);
        }

        int differences(Table other) {
            int found = 0;
            for (int i = 0; i < size * size; i++) {
                if (cells[i] != other.cells[i]) {
                    found++;
                }
            }
            return found;
        }

        /** The columns of the cycle of two rows from a column, as bits. */
        int cycleFrom(int a, int b, int column) {
            int columns = 0;
            int next = column;
            for (int i = 0; i < size && hasElement(next); i++) {
                columns |= 1 << next;
                next = under(a, times(b, next));
                if (next == column) {
                    break;
                }
            }
            return columns;
        }

        void switchRows(int a, int b, int columns) {
            for (int y = 0; y < size; y++) {
                if ((columns >> y & 1) != 0) {
                    exchange(cells, size * a + y, size * b + y);
                }
            }
        }

        int cycleCount(int a, int b) {
            int seen = 0;
            int found = 0;
            for (int y = 0; y < size; y++) {
                if ((seen >> y & 1) == 0) {
                    seen |= cycleFrom(a, b, y);
                    found++;
                }
            }
            return found;
        }

        int longestCycle(int a, int b) {
            int longest = 0;
            for (int y = 0; y < size; y++) {
                longest = Math.max(longest, Integer.bitCount(cycleFrom(a, b, y)));
            }
            return longest;
        }
    }

    /** All that an image keeps. */
    private static final class State {
        final Table[] tables = new Table[TABLES];
        final Law[] laws = new Law[LAWS];
        int lawCount;
        int clueSize;
        final int[] clues = new int[CELLS];
        // Entries below done can be undone, the undone ones behind them redone. Each has the
        // table that stands on the other side of its change.
        final int[] changed = new int[CHANGES];
        final Table[] kept = new Table[CHANGES];
        int done;
        int undone;

        State() {
            for (int i = 0; i < TABLES; i++) {
                tables[i] = new Table();
            }
            for (int i = 0; i < CHANGES; i++) {
                kept[i] = new Table();
            }
        }

        void become(State other) {
            for (int i = 0; i < TABLES; i++) {
                tables[i].become(other.tables[i]);
            }
            for (int i = 0; i < LAWS; i++) {
                laws[i] = other.laws[i];
            }
            lawCount = other.lawCount;
            clueSize = other.clueSize;
            System.arraycopy(other.clues, 0, clues, 0, CELLS);
            System.arraycopy(other.changed, 0, changed, 0, CHANGES);
            for (int i = 0; i < CHANGES; i++) {
                kept[i].become(other.kept[i]);
            }
            done = other.done;
            undone = other.undone;
        }

        void putInPlace(int table, Table made) {
            if (done == CHANGES) {
                letOldestGo();
            }
            changed[done] = table;
            kept[done].become(made);
            done++;
            undone = 0;
            exchangeKept(done - 1);
        }

        private void letOldestGo() {
            Table oldest = kept[0];
            for (int i = 1; i < CHANGES; i++) {
                kept[i - 1] = kept[i];
                changed[i - 1] = changed[i];
            }
            kept[CHANGES - 1] = oldest;
            done--;
        }

        private void exchangeKept(int entry) {
            Table stood = tables[changed[entry]];
            tables[changed[entry]] = kept[entry];
            kept[entry] = stood;
        }

        void stepBack() {
            done--;
            undone++;
            exchangeKept(done);
        }

        void stepOn() {
            exchangeKept(done);
            done++;
            undone--;
        }

        int tableCount() {
            int found = 0;
            for (int i = 0; i < TABLES; i++) {
                if (tables[i].size > 0) {
                    found++;
                }
            }
            return found;
        }

        int clueCount() {
            int found = 0;
            for (int i = 0; i < clueSize * clueSize; i++) {
                if (clues[i] != NONE) {
                    found++;
                }
            }
            return found;
        }
    }

    /** Parts of a table, as bits; how far it joins and commutes. */
    private static final class Parts {

        static boolean isClosed(Table table, int part) {
            return table.hasPart(part) && joinedTo(table, part) == part;
        }

        /** A part and all that two of it make. */
        private static int joinedTo(Table table, int part) {
            int joined = part;
            for (int x = 0; x < table.size; x++) {
                if ((part >> x & 1) != 0) {
                    joined |= rowOf(table, x, part);
                }
            }
            return joined;
        }

        private static int rowOf(Table table, int x, int part) {
            int bits = 0;
            for (int y = 0; y < table.size; y++) {
                if ((part >> y & 1) != 0) {
                    bits |= 1 << table.times(x, y);
                }
            }
            return bits;
        }

        static int leastClosed(Table table, int part) {
            int grown = part;
            for (int i = 0; i < table.size; i++) {
                grown = joinedTo(table, grown);
            }
            return grown;
        }

        /** Asked of loops alone: there the row of x by a closed part has x in it. */
        static boolean isNormal(Table loop, int part) {
            return isClosed(loop, part) && rowsFallAsunder(loop, part) && classesJoin(loop, part);
        }

        private static boolean rowsFallAsunder(Table loop, int part) {
            for (int x = 0; x < loop.size; x++) {
                int bits = rowOf(loop, x, part);
                for (int y = 0; y < x; y++) {
                    int others = rowOf(loop, y, part);
                    if (bits != others && (bits & others) != 0) {
                        return false;
                    }
                }
            }
            return true;
        }

        private static boolean classesJoin(Table loop, int part) {
            for (int x = 0; x < loop.size; x++) {
                int a = lowest(loop, x, part);
                for (int y = 0; y < loop.size; y++) {
                    int product = loop.times(a, lowest(loop, y, part));
                    if (lowest(loop, loop.times(x, y), part) != lowest(loop, product, part)) {
                        return false;
                    }
                }
            }
            return true;
        }

        private static int lowest(Table loop, int x, int part) {
            return Integer.numberOfTrailingZeros(rowOf(loop, x, part));
        }

        static void makeQuotient(Table made, Table loop, int part) {
            int lowestOnes = 0;
            for (int x = 0; x < loop.size; x++) {
                lowestOnes |= 1 << lowest(loop, x, part);
            }
            made.size = Integer.bitCount(lowestOnes);
            for (int x = 0; x < loop.size; x++) {
                for (int y = 0; y < loop.size; y++) {
                    int z = loop.times(x, y);
                    made.put(classNumber(loop, x, part, lowestOnes),
                            classNumber(loop, y, part, lowestOnes),
                            classNumber(loop, z, part, lowestOnes));
                }
            }
        }

        private static int classNumber(Table loop, int x, int part, int lowestOnes) {
            int below = (1 << lowest(loop, x, part)) - 1;
            return Integer.bitCount(lowestOnes & below);
        }

        static int closedOnes(Table table, boolean normal) {
            int found = 0;
            for (int part = 1; part < 1 << table.size; part++) {
                if (normal ? isNormal(table, part) : isClosed(table, part)) {
                    found++;
                }
            }
            return found;
        }

        static int fewestMakers(Table table) {
            int all = (1 << table.size) - 1;
            int fewest = all;
            for (int part = 1; part < all; part++) {
                boolean fewer = Integer.bitCount(part) < Integer.bitCount(fewest);
                if (fewer && leastClosed(table, part) == all) {
                    fewest = part;
                }
            }
            return fewest;
        }

        static int nucleusBits(Table table, int what) {
            switch (what) {
                case 0:
                case 1:
                case 2:
                    return joining(table, what);
                case 3:
                    return joiningAll(table);
                case 4:
                    return commutant(table);
                case 5:
                    return joiningAll(table) & commutant(table);
                default:
                    return NONE;
            }
        }

        private static int joiningAll(Table table) {
            return joining(table, 0) & joining(table, 1) & joining(table, 2);
        }

        private static int joining(Table table, int seat) {
            int bits = 0;
            for (int a = 0; a < table.size; a++) {
                if (joinsInSeat(table, seat, a)) {
                    bits |= 1 << a;
                }
            }
            return bits;
        }

        private static boolean joinsInSeat(Table table, int seat, int a) {
            for (int x = 0; x < table.size; x++) {
                for (int y = 0; y < table.size; y++) {
                    boolean joined = seat == 0 ? joins(table, a, x, y)
                            : seat == 1 ? joins(table, x, a, y)
                            : joins(table, x, y, a);
                    if (!joined) {
                        return false;
                    }
                }
            }
            return true;
        }

        private static boolean joins(Table table, int x, int y, int z) {
            return table.times(x, table.times(y, z)) == table.times(table.times(x, y), z);
        }

        private static int commutant(Table table) {
            int bits = 0;
            for (int a = 0; a < table.size; a++) {
                int x = 0;
                while (x < table.size && table.times(a, x) == table.times(x, a)) {
                    x++;
                }
                if (x == table.size) {
                    bits |= 1 << a;
                }
            }
            return bits;
        }

        static int joinedAlike(Table table) {
            int found = 0;
            for (int x = 0; x < table.size; x++) {
                for (int y = 0; y < table.size; y++) {
                    for (int z = 0; z < table.size; z++) {
                        if (joins(table, x, y, z)) {
                            found++;
                        }
                    }
                }
            }
            return found;
        }

        static int commuting(Table table) {
            int found = 0;
            for (int x = 0; x < table.size; x++) {
                for (int y = 0; y < table.size; y++) {
                    if (table.times(x, y) == table.times(y, x)) {
                        found++;
                    }
                }
            }
            return found;
        }
    }

    /** A law as it is reckoned: each operation behind the two that it joins. */
    private static final class Law {
        final int[] code;
        final int ifAt;
        // A bit for each letter and operation that is in the code.
        final int uses;

        Law(int[] code, int ifAt, int uses) {
            this.code = code;
            this.ifAt = ifAt;
            this.uses = uses;
        }
    }

    /** Reads the text of a law; where it stops at a fault, the token it stands at is the fault. */
    private static final class LawReader {
        static final int UNIT = 3;
        static final int TIMES = 4;
        static final int OVER = 5;
        static final int UNDER = 6;
        static final int EQUAL = 7;
        private static final int COMMA = 8;
        private static final int IF = 9;
        private static final int OPEN = 10;
        private static final int CLOSE = 11;
        private static final int END = 12;
        private static final int OTHER = 13;
        private static final int LETTERS = 32;
        private static final int BRACKETS = 8;

        private int[] text = new int[0];
        private int length;
        private int tokenAt;
        private int tokenEnd;
        private int kind;
        // 32 letters make at most 31 operations and equations.
        private final int[] code = new int[2 * LETTERS];
        private int codeLength;
        private int letterCount;
        private int uses;

        int place() {
            return tokenAt;
        }

        Law readLaw(int[] tape, int tapeLength) {
            text = tape;
            length = Math.min(tapeLength, tape.length);
            tokenEnd = 0;
            codeLength = 0;
            letterCount = 0;
            uses = 0;
            goOn();
            if (!readSide()) {
                return null;
            }
            int ifAt = codeLength;
            if (kind == IF) {
                goOn();
                if (!readSide()) {
                    return null;
                }
            }
            return kind == END ? new Law(Arrays.copyOf(code, codeLength), ifAt, uses) : null;
        }

        private boolean readSide() {
            for (int i = 0; i <= length; i++) {
                if (!readEquation()) {
                    return false;
                }
                if (kind != COMMA) {
                    return true;
                }
                goOn();
            }
            return false;
        }

        private boolean readEquation() {
            if (!readTerm(0) || kind != EQUAL) {
                return false;
            }
            goOn();
            if (!readTerm(0)) {
                return false;
            }
            emit(EQUAL);
            return true;
        }

        private boolean readTerm(int depth) {
            if (!readPart(depth)) {
                return false;
            }
            for (int i = 0; i <= length && kind >= TIMES && kind <= UNDER; i++) {
                int operation = kind;
                goOn();
                if (!readPart(depth)) {
                    return false;
                }
                emit(operation);
            }
            return true;
        }

        private boolean readPart(int depth) {
            if (kind <= UNIT && letterCount < LETTERS) {
                letterCount++;
                emit(kind);
                goOn();
                return true;
            }
            if (kind != OPEN || depth >= BRACKETS) {
                return false;
            }
            goOn();
            if (!readTerm(depth + 1) || kind != CLOSE) {
                return false;
            }
            goOn();
            return true;
        }

        private void emit(int operation) {
            if (codeLength < code.length) {
                code[codeLength] = operation;
                codeLength++;
                uses |= 1 << operation;
            }
        }

        /** To the next token. */
        private void goOn() {
            tokenAt = tokenEnd;
            while (tokenAt < length && text[tokenAt] == ' ') {
                tokenAt++;
            }
            tokenEnd = tokenAt;
            while (tokenEnd < length && text[tokenEnd] >= 'a' && text[tokenEnd] <= 'z') {
                tokenEnd++;
            }
            if (tokenEnd == tokenAt && tokenAt < length) {
                tokenEnd++;
            }
            int signs = tokenEnd - tokenAt;
            kind = signs == 0 ? END
                    : signs == 1 ? kindOfSign(text[tokenAt])
                    : signs == 2 && text[tokenAt] == 'i' && text[tokenAt + 1] == 'f' ? IF
                    : OTHER;
        }

        private static int kindOfSign(int sign) {
            switch (sign) {
                case 'x':
                case 'y':
                case 'z':
                    return sign - 'x';
                case 'e':
                    return UNIT;
                case '*':
                    return TIMES;
                case '/':
                    return OVER;
                case '\\':
                    return UNDER;
                case '=':
                    return EQUAL;
                case ',':
                    return COMMA;
                case '(':
                    return OPEN;
                case ')':
                    return CLOSE;
                default:
                    return OTHER;
            }
        }
    }

    /** Holds laws against the table that it looked at last. */
    private static final class Checker {
        private static final int DIVISIONS = 1 << LawReader.OVER | 1 << LawReader.UNDER;

        private int n;
        private int[] times = new int[CELLS];
        private boolean divided;
        private final int[] over = new int[CELLS];
        private final int[] under = new int[CELLS];
        // What x, y, z and the unit stand for.
        private final int[] values = new int[LawReader.UNIT + 1];
        private final int[] stack = new int[LawReader.LETTERS + 1];

        void look(Table table, int unit) {
            n = table.size;
            times = table.cells;
            divided = false;
            values[LawReader.UNIT] = Math.max(unit, 0);
        }

        /** Few laws divide, and the lister looks at many tables: so not ahead of a law that does. */
        private void divide() {
            divided = true;
            for (int x = 0; x < n; x++) {
                for (int y = 0; y < n; y++) {
                    int z = times[n * x + y];
                    over[n * z + y] = x;
                    under[n * x + z] = y;
                }
            }
        }

        int letterValue(int letter) {
            return values[letter];
        }

        /** How many failures there are, up to a most; the values stay at the one it stops at. */
        int failures(Law law, int most) {
            if (!divided && (law.uses & DIVISIONS) != 0) {
                divide();
            }
            int xs = span(law, 0);
            int ys = span(law, 1);
            int zs = span(law, 2);
            int found = 0;
            for (int x = 0; x < xs; x++) {
                values[0] = x;
                for (int y = 0; y < ys; y++) {
                    values[1] = y;
                    for (int z = 0; z < zs; z++) {
                        values[2] = z;
                        if (isBroken(law)) {
                            found++;
                        }
                        if (found >= most) {
                            return found;
                        }
                    }
                }
            }
            return found;
        }

        private int span(Law law, int letter) {
            return (law.uses >> letter & 1) != 0 ? n : 1;
        }

        private boolean isBroken(Law law) {
            return areSo(law.code, law.ifAt, law.code.length) && !areSo(law.code, 0, law.ifAt);
        }

        /** Whether all equations of a stretch of the code are so. */
        private boolean areSo(int[] code, int from, int to) {
            int top = -1;
            for (int i = from; i < to; i++) {
                int operation = code[i];
                if (operation <= LawReader.UNIT) {
                    top++;
                    stack[top] = values[operation];
                    continue;
                }
                top--;
                if (operation == LawReader.EQUAL) {
                    if (stack[top] != stack[top + 1]) {
                        return false;
                    }
                    top--;
                } else {
                    stack[top] = join(operation, n * stack[top] + stack[top + 1]);
                }
            }
            return true;
        }

        private int join(int operation, int cell) {
            return operation == LawReader.TIMES ? times[cell]
                    : operation == LawReader.OVER ? over[cell]
                    : under[cell];
        }
    }

    /** Goes through all loops with unit 0, lower ones ahead. */
    private static final class Lister {
        final Table loop = new Table();
        int found;
        private final Checker checker = new Checker();
        private final int[] columnUsed = new int[GREATEST];
        private Law[] laws = new Law[0];
        private int hold;
        private int not;
        private int wanted;

        void choose(Law[] laws, int hold, int not) {
            this.laws = laws;
            this.hold = hold;
            this.not = not;
        }

        /** Whether there is an i-th one: the loop then. If there is none, found has how many there are. */
        boolean seek(int n, int i) {
            wanted = i;
            found = 0;
            loop.size = n;
            for (int x = 0; x < n; x++) {
                loop.put(x, 0, x);
                loop.put(0, x, x);
                columnUsed[x] = 1 << x;
            }
            return placeFrom(1, 1, 1 << 1);
        }

        /** Places all from a cell on; whether the wanted loop was reached. */
        private boolean placeFrom(int x, int y, int rowUsed) {
            if (x >= loop.size) {
                if (!isListed()) {
                    return false;
                }
                found++;
                return found - 1 == wanted;
            }
            int used = rowUsed | columnUsed[y];
            boolean rowEnds = y == loop.size - 1;
            for (int value = 0; value < loop.size; value++) {
                int bit = 1 << value;
                if ((used & bit) != 0) {
                    continue;
                }
                loop.put(x, y, value);
                columnUsed[y] |= bit;
                boolean reached = rowEnds ? placeFrom(x + 1, 1, 1 << (x + 1))
                        : placeFrom(x, y + 1, rowUsed | bit);
                columnUsed[y] &= ~bit;
                if (reached) {
                    return true;
                }
            }
            return false;
        }

        private boolean isListed() {
            if ((hold | not) == 0) {
                return true;
            }
            checker.look(loop, 0);
            for (int i = 0; i < laws.length; i++) {
                boolean mustHold = (hold >> i & 1) != 0;
                boolean mustNot = (not >> i & 1) != 0;
                if ((mustHold || mustNot) && laws[i] != null) {
                    boolean obeyed = checker.failures(laws[i], 1) == 0;
                    if (obeyed ? mustNot : mustHold) {
                        return false;
                    }
                }
            }
            return true;
        }
    }

    /** Renames elements; counts permutations that keep a table, that bring a group near it, that it makes. */
    private static final class Permutations {
        int nearest;
        int nearestCount;
        private final Table group = new Table();
        private final int[] p = new int[GREATEST];
        private final int[] q = new int[GREATEST];
        private final int[] r = new int[GREATEST];
        // Permutations by their numbers: whether one was reached, all that were.
        private final int[] reached = new int[720];
        private final int[] numbers = new int[720];
        private int count;

        void makeRenamed(Table made, Table from, int number) {
            int n = from.size;
            setNumbered(number, n);
            made.size = n;
            for (int x = 0; x < n; x++) {
                for (int y = 0; y < n; y++) {
                    made.put(p[x], p[y], p[from.times(x, y)]);
                }
            }
        }

        int automorphisms(Table table) {
            int found = 0;
            startPermutation(p);
            for (int i = 0; i < FACTORIALS[table.size]; i++) {
                if (renamedApart(table, table, 0) == 0) {
                    found++;
                }
                permuteOn(p, 0, table.size);
            }
            return found;
        }

        /** In how many cells a table renamed by p is not another one; it stops counting beyond a most. */
        private int renamedApart(Table table, Table other, int most) {
            int found = 0;
            for (int x = 0; x < table.size && found <= most; x++) {
                for (int y = 0; y < table.size && found <= most; y++) {
                    if (p[table.times(x, y)] != other.times(p[x], p[y])) {
                        found++;
                    }
                }
            }
            return found;
        }

        int autotopies(Table table) {
            int found = 0;
            startPermutation(p);
            for (int i = 0; i < FACTORIALS[table.size]; i++) {
                for (int image = 0; image < table.size; image++) {
                    if (isAutotopy(table, image)) {
                        found++;
                    }
                }
                permuteOn(p, 0, table.size);
            }
            return found;
        }

        /** The rows' permutation p and the image of column 0 leave no choice for the other two. */
        private boolean isAutotopy(Table table, int image) {
            int n = table.size;
            for (int x = 0; x < n; x++) {
                r[table.times(x, 0)] = table.times(p[x], image);
            }
            for (int y = 0; y < n; y++) {
                q[y] = table.under(p[0], r[table.times(0, y)]);
            }
            for (int x = 1; x < n; x++) {
                for (int y = 1; y < n; y++) {
                    if (r[table.times(x, y)] != table.times(p[x], q[y])) {
                        return false;
                    }
                }
            }
            return true;
        }

        void seekGroups(Table table) {
            nearest = CELLS;
            nearestCount = 0;
            group.makeCyclic(table.size);
            seekGroup(table);
            if (table.size == 4 || table.size == 6) {
                group.makeOtherGroup(table.size);
                seekGroup(table);
            }
        }

        private void seekGroup(Table table) {
            // Each of the group's tables comes once for each automorphism.
            int repeats = Math.max(automorphisms(group), 1);
            int least = CELLS;
            int found = 0;
            startPermutation(p);
            for (int i = 0; i < FACTORIALS[table.size]; i++) {
                int apart = renamedApart(group, table, least);
                if (apart < least) {
                    least = apart;
                    found = 0;
                }
                if (apart == least) {
                    found++;
                }
                permuteOn(p, 0, table.size);
            }
            if (least < nearest) {
                nearest = least;
                nearestCount = 0;
            }
            if (least == nearest) {
                nearestCount += found / repeats;
            }
        }

        /** How many permutations rows, columns make. */
        int madeBy(Table table, boolean rows, boolean columns) {
            int n = table.size;
            Arrays.fill(reached, 0);
            count = 0;
            startPermutation(q);
            reach(n);
            for (int i = 0; i < numbers.length && i < count; i++) {
                setNumbered(numbers[i], n);
                for (int a = 0; a < n; a++) {
                    if (rows) {
                        joinRow(table, a);
                        reach(n);
                    }
                    if (columns) {
                        joinColumn(table, a);
                        reach(n);
                    }
                }
            }
            return count;
        }

        private void joinRow(Table table, int a) {
            for (int x = 0; x < table.size; x++) {
                q[x] = table.times(a, p[x]);
            }
        }

        private void joinColumn(Table table, int a) {
            for (int x = 0; x < table.size; x++) {
                q[x] = table.times(p[x], a);
            }
        }

        private void reach(int n) {
            int number = numberOfJoined(n);
            if (reached[number] == 0 && count < numbers.length) {
                reached[number] = 1;
                numbers[count] = number;
                count++;
            }
        }

        private int numberOfJoined(int n) {
            int number = 0;
            int used = 0;
            for (int i = 0; i < n; i++) {
                int bit = 1 << q[i];
                int lowerFree = q[i] - Integer.bitCount(used & (bit - 1));
                number += lowerFree * FACTORIALS[n - 1 - i];
                used |= bit;
            }
            return number;
        }

        private void setNumbered(int number, int n) {
            int rest = number;
            for (int i = 0; i < n; i++) {
                p[i] = rest / FACTORIALS[n - 1 - i];
                rest %= FACTORIALS[n - 1 - i];
            }
            // So far each entry is a place among the elements that the entries ahead of it left.
            for (int i = n - 2; i >= 0; i--) {
                for (int k = i + 1; k < n; k++) {
                    if (p[k] >= p[i]) {
                        p[k]++;
                    }
                }
            }
        }
    }

    /** Finds the first of all tables that are like one; the latest name is kept for the next call. */
    private static final class Namer {
        private final Table named = new Table();
        private int namedBy = NONE;
        private final Table best = new Table();
        private final Table conjugated = new Table();
        private final Table loop = new Table();
        private final int[] from = new int[GREATEST];
        private final int[] to = new int[GREATEST];

        Table nameOf(Table table, int likeness) {
            boolean known = likeness == namedBy && table.size == named.size
                    && table.differences(named) == 0;
            if (!known) {
                named.become(table);
                namedBy = likeness;
                best.size = 0;
                offerAll();
            }
            return best;
        }

        private void offerAll() {
            if (namedBy == ISOMORPHIC) {
                startPermutation(from);
                offerFrom(named, 0);
                return;
            }
            int conjugates = namedBy == ISOTOPIC ? 1 : CONJUGATES;
            for (int which = 0; which < conjugates; which++) {
                conjugated.makeConjugate(named, which);
                offerIsotopes();
            }
        }

        /**
         * The first of all isotopic tables is a loop with unit 0, and each loop among them is an
         * isotope by two elements, renamed.
         */
        private void offerIsotopes() {
            int n = conjugated.size;
            for (int a = 0; a < n; a++) {
                for (int b = 0; b < n; b++) {
                    loop.makeIsotope(conjugated, a, b);
                    startFrom(conjugated.times(a, b));
                    offerFrom(loop, 1);
                }
            }
        }

        private void startFrom(int unit) {
            from[0] = unit;
            for (int i = 1; i < GREATEST; i++) {
                from[i] = i <= unit ? i - 1 : i;
            }
        }

        private void offerFrom(Table table, int first) {
            int ways = FACTORIALS[table.size - first];
            for (int i = 0; i < ways; i++) {
                offer(table);
                permuteOn(from, first, table.size);
            }
        }

        /** Cells are written over the best from the first lower one on: ahead of it both are the same. */
        private void offer(Table table) {
            int n = table.size;
            for (int i = 0; i < n; i++) {
                to[from[i]] = i;
            }
            boolean lower = best.size == 0;
            best.size = n;
            for (int x = 0; x < n; x++) {
                for (int y = 0; y < n; y++) {
                    int value = to[table.times(from[x], from[y])];
                    if (!lower && value > best.times(x, y)) {
                        return;
                    }
                    if (lower || value < best.times(x, y)) {
                        lower = true;
                        best.put(x, y, value);
                    }
                }
            }
        }
    }

    /** Transversals (as bits of their cells), and the ways in which they share out all cells. */
    private static final class Crossings {
        private Table table = new Table();
        // One for each permutation is as many as there can be.
        private final long[] found = new long[720];
        private int count;

        int transversals(Table asked) {
            table = asked;
            count = 0;
            crossFrom(0, 0, 0, 0L);
            return count;
        }

        private void crossFrom(int x, int columns, int elements, long cells) {
            if (x >= table.size) {
                if (count < found.length) {
                    found[count] = cells;
                    count++;
                }
                return;
            }
            for (int y = 0; y < table.size; y++) {
                int element = 1 << table.times(x, y);
                if ((columns >> y & 1) == 0 && (elements & element) == 0) {
                    crossFrom(x + 1, columns | 1 << y, elements | element,
                            cells | 1L << (table.size * x + y));
                }
            }
        }

        int mates(Table asked) {
            transversals(asked);
            return shareFrom(0, 0L);
        }

        /** In how many ways the first row's cells from a column on get transversals clear of the used. */
        private int shareFrom(int column, long used) {
            if (column >= table.size) {
                return 1;
            }
            int ways = 0;
            for (int i = 0; i < count; i++) {
                if ((found[i] >> column & 1L) != 0 && (found[i] & used) == 0) {
                    ways += shareFrom(column + 1, used | found[i]);
                }
            }
            return ways;
        }

        static int squares(Table table) {
            int squares = 0;
            for (int a = 0; a < table.size; a++) {
                for (int b = 0; b < a; b++) {
                    squares += squaresOf(table, a, b);
                }
            }
            return squares;
        }

        private static int squaresOf(Table table, int a, int b) {
            int squares = 0;
            for (int x = 0; x < table.size; x++) {
                for (int y = 0; y < x; y++) {
                    if (table.times(a, x) == table.times(b, y)
                            && table.times(a, y) == table.times(b, x)) {
                        squares++;
                    }
                }
            }
            return squares;
        }
    }

    /** Fills told cells in all ways, the cell with the fewest choices first. */
    private static final class Filler {
        private int n;
        private final int[] rowUsed = new int[GREATEST];
        private final int[] columnUsed = new int[GREATEST];
        private final int[] open = new int[CELLS];
        private int openCount;
        private int found;
        private int most;

        int tally(int size, int[] board, int limit) {
            found = 0;
            most = limit;
            if (size > 0 && setOut(size, board)) {
                fillOpen(openCount);
            }
            return found;
        }

        boolean makeFirst(Table made, int size, int[] board) {
            if (tally(size, board, 1) == 0) {
                return false;
            }
            made.size = size;
            System.arraycopy(board, 0, made.cells, 0, CELLS);
            for (int cell = 0; cell < size * size; cell++) {
                if (made.cells[cell] == NONE) {
                    putLowest(made, cell);
                }
            }
            return true;
        }

        private void putLowest(Table made, int cell) {
            for (int value = 0; value < made.size; value++) {
                made.cells[cell] = value;
                if (tally(made.size, made.cells, 1) > 0) {
                    return;
                }
            }
        }

        /** Whether the told cells do not clash. */
        private boolean setOut(int size, int[] board) {
            n = size;
            openCount = 0;
            Arrays.fill(rowUsed, 0);
            Arrays.fill(columnUsed, 0);
            for (int x = 0; x < n; x++) {
                for (int y = 0; y < n; y++) {
                    int value = board[n * x + y];
                    if (value == NONE) {
                        open[openCount] = GREATEST * x + y;
                        openCount++;
                    } else if (((rowUsed[x] | columnUsed[y]) >> value & 1) != 0) {
                        return false;
                    } else {
                        rowUsed[x] |= 1 << value;
                        columnUsed[y] |= 1 << value;
                    }
                }
            }
            return true;
        }

        private void fillOpen(int left) {
            if (left == 0) {
                found++;
                return;
            }
            int chosen = tightest(left);
            exchange(open, chosen, left - 1);
            int x = open[left - 1] / GREATEST;
            int y = open[left - 1] % GREATEST;
            int used = rowUsed[x] | columnUsed[y];
            for (int value = 0; value < n && found < most; value++) {
                int bit = 1 << value;
                if ((used & bit) == 0) {
                    rowUsed[x] |= bit;
                    columnUsed[y] |= bit;
                    fillOpen(left - 1);
                    rowUsed[x] &= ~bit;
                    columnUsed[y] &= ~bit;
                }
            }
            exchange(open, chosen, left - 1);
        }

        private int tightest(int left) {
            int chosen = 0;
            int mostUsed = -1;
            for (int i = 0; i < left && mostUsed < n - 1; i++) {
                int bits = rowUsed[open[i] / GREATEST] | columnUsed[open[i] % GREATEST];
                int used = Integer.bitCount(bits);
                if (used > mostUsed) {
                    mostUsed = used;
                    chosen = i;
                }
            }
            return chosen;
        }
    }
}
