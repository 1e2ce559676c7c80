/** Promises 25 to 37 and what the terms say of parts, likeness and groups. */
final class BoundsOfParts {
    private static final String Z6 = "012345123450234501345012450123501234";
    /** A loop of order 5 that is no group. */
    private static final String[] FIVE = row("0123410342234013412042013");
    /** A group of order 6 that does not commute. */
    private static final String[] FLIPS = row("012345120453201534354021435102543210");
    /** A loop of order 6 whose three nuclei are 0, 1 and 0, 2 and 0, 5. */
    private static final String[] THREE_NUCLEI = row("012345103254240513351402435021524130");
    /** Its conjugates are of three isotopic kinds; it is the first of them all. */
    private static final String TURNED = "012345103254234501345012450123521430";
    private static final String TURNED_ONCE = "012345103452234501325014450123541230";
    /** y - x modulo 3. */
    private static final String[] MINUS = row("012201120");
    /** - x - y modulo 3: each element is closed by itself. */
    private static final String[] BOTH_MINUS = row("021210102");

    private BoundsOfParts() {
    }

    static void hold(Sentences s) {
        nucleus(s);
        counts(s);
        closed(s);
        parts(s);
        makers(s);
        group(s);
        name(s);
        alike(s);
        autos(s);
        crossings(s);
        cycles(s);
        apart(s);
        near(s);
    }

    /** Table 0 becomes a table told by its cells. */
    private static String[] row(String cells) {
        int n = (int) Math.round(Math.sqrt(cells.length()));
        StringBuilder bytes = new StringBuilder("bytes " + n);
        for (char cell : cells.toCharArray()) {
            bytes.append(' ').append(cell);
        }
        return new String[] {bytes.toString(), "row(0) -> " + n};
    }

    /** That an ask with a table and a number knows no other tables, and numbers 0 .. most alone. */
    private static void noSuch(Sentences s, int promise, String sentence, String ask, int most) {
        s.says(promise, sentence,
                "cyclic(0, 2)", ask + "(1, 0) -> NONE", ask + "(5, " + most + ") -> NONE", ask + "(6, 0) -> NONE",
                ask + "(-1, 0) -> NONE", ask + "(MOST, 0) -> NONE", ask + "(LEAST, 0) -> NONE",
                ask + "(0, -1) -> NONE", ask + "(0, " + (most + 1) + ") -> NONE", ask + "(0, MOST) -> NONE",
                ask + "(0, LEAST) -> NONE", "undo()", ask + "(0, 0) -> NONE");
    }

    private static void nucleus(Sentences s) {
        s.says(25, "NUCLEI: LEFT: those a for which a * (x * y) is (a * x) * y for all x, y; MIDDLE: x * (a * y) is "
                + "(x * a) * y; RIGHT: x * (y * a) is (x * y) * a.",
                THREE_NUCLEI, "nucleus(0, 0) -> 3", "nucleus(0, 1) -> 5", "nucleus(0, 2) -> 33", "nucleus(0, 3) -> 1");
        s.says(25, "The COMMUTANT: a * x is x * a for all x; the CENTRE: those in all four.",
                FIVE, "nucleus(0, 4) -> 3", "nucleus(0, 5) -> 1", row("012345120453201534354102435210543021"),
                "nucleus(0, 3) -> 7", "nucleus(0, 4) -> 1", "nucleus(0, 5) -> 1", FLIPS, "nucleus(0, 3) -> 63",
                "nucleus(0, 5) -> 1",
                // All commute, three are in the middle nucleus, but the unit alone in all four.
                row("012345120453201534345021453210534102"), "nucleus(0, 4) -> 63", "nucleus(0, 1) -> 7",
                "nucleus(0, 5) -> 1");
        // In two of the three: left and right, middle and right, left and middle.
        s.says(25, "in all three (3),",
                row("012345103254240513351402425130534021"), "nucleus(0, 0) -> 3", "nucleus(0, 1) -> 5",
                "nucleus(0, 2) -> 3", "nucleus(0, 3) -> 1", row("012345103254240513351402435120524031"),
                "nucleus(0, 0) -> 3", "nucleus(0, 1) -> 5", "nucleus(0, 2) -> 5", "nucleus(0, 3) -> 1",
                row("012345103254240531351420425013534102"), "nucleus(0, 0) -> 3", "nucleus(0, 1) -> 3",
                "nucleus(0, 2) -> 5", "nucleus(0, 3) -> 1", "nucleus(0, 5) -> 1");
        s.says(25, "NUCLEUS LEFT (what 0), MIDDLE (1), RIGHT (2), in all three (3), COMMUTANT (4), CENTRE (5), as "
                + "bits.",
                "cyclic(0, 6)", "nucleus(0, 0) -> 63", "nucleus(0, 1) -> 63", "nucleus(0, 2) -> 63",
                "nucleus(0, 3) -> 63", "nucleus(0, 4) -> 63", "nucleus(0, 5) -> 63", "cyclic(0, 1)",
                "nucleus(0, 0) -> 1", "nucleus(0, 5) -> 1",
                // None at all, without a unit.
                row("0231310213202013"), "nucleus(0, 0) -> 0", "nucleus(0, 1) -> 0", "nucleus(0, 2) -> 0",
                "nucleus(0, 3) -> 0", "nucleus(0, 4) -> 0", "nucleus(0, 5) -> 0");
        noSuch(s, 25, "NONE.", "nucleus", 5);
    }

    private static void counts(Sentences s) {
        s.says(26, "How many x, y, z are joined either way alike (what 0), how many x, y commute (1).",
                "cyclic(0, 1)", "counts(0, 0) -> 1", "counts(0, 1) -> 1", "cyclic(0, 6)", "counts(0, 0) -> 216",
                "counts(0, 1) -> 36", FIVE, "counts(0, 0) -> 74", "counts(0, 1) -> 19", THREE_NUCLEI,
                "counts(0, 0) -> 172", "counts(0, 1) -> 18", BOTH_MINUS, "counts(0, 0) -> 9", "counts(0, 1) -> 9",
                MINUS, "counts(0, 1) -> 3");
        noSuch(s, 26, "NONE.", "counts", 1);
    }

    private static void closed(Sentences s) {
        s.says(27, "A PART (bits) is CLOSED, if it is not empty and x * y is in it for all x, y in it.",
                "cyclic(0, 6)", "closed(0, 1) -> 1", "closed(0, 9) -> 9", "closed(0, 21) -> 21",
                "closed(0, 63) -> 63", "parts(0, 0) -> 4", "parts(0, 1) -> 4", BOTH_MINUS, "closed(0, 1) -> 1",
                "closed(0, 2) -> 2", "closed(0, 4) -> 4", "closed(0, 3) -> 7", "parts(0, 0) -> 4");
        s.says(27, "The least CLOSED PART with all of a PART",
                "cyclic(0, 6)", "closed(0, 2) -> 63", "closed(0, 4) -> 21", "closed(0, 8) -> 9",
                "closed(0, 32) -> 63", "closed(0, 12) -> 63", "closed(0, 20) -> 21", "cyclic(0, 1)",
                "closed(0, 1) -> 1",
                // 0 * 0 is 2, 2 * 2 is 1.
                row("210102021"), "closed(0, 1) -> 7", "closed(0, 2) -> 7", "parts(0, 0) -> 1");
        s.says(27, "(not empty), as bits.",
                "cyclic(0, 6)", "closed(0, 0) -> NONE", "cyclic(0, 1)", "closed(0, 0) -> NONE");
        s.says(27, "NONE.",
                "cyclic(0, 3)", "closed(0, 7) -> 7", "closed(0, 8) -> NONE", "closed(0, 9) -> NONE",
                "closed(0, 63) -> NONE", "closed(0, -1) -> NONE", "closed(0, LEAST) -> NONE",
                "closed(0, MOST) -> NONE", "cyclic(0, 6)", "closed(0, 64) -> NONE", "closed(0, 65) -> NONE");
        s.says(27, "NONE.",
                "cyclic(0, 3)", "closed(1, 1) -> NONE", "closed(6, 1) -> NONE", "closed(-1, 1) -> NONE",
                "closed(MOST, 1) -> NONE");
    }

    private static void parts(Sentences s) {
        s.says(28, "How many CLOSED PARTS (what 0), NORMAL ones (1;",
                "cyclic(0, 1)", "parts(0, 0) -> 1", "parts(0, 1) -> 1", "cyclic(0, 2)", "parts(0, 0) -> 2",
                "parts(0, 1) -> 2", FLIPS, "parts(0, 0) -> 6", "parts(0, 1) -> 3", FIVE, "parts(0, 0) -> 3",
                "parts(0, 1) -> 2", "cyclic(1, 2)", "product(1, 1, 1)", "parts(1, 0) -> 5", "parts(1, 1) -> 5");
        s.says(28, "NONE: no LOOP).",
                MINUS, "parts(0, 0) -> 2", "parts(0, 1) -> NONE", "conjugate(0, 1)", "parts(0, 1) -> NONE",
                BOTH_MINUS, "parts(0, 0) -> 4", "parts(0, 1) -> NONE");
        noSuch(s, 28, "NONE.", "parts", 1);
    }

    private static void makers(Sentences s) {
        s.says(29, "The fewest ELEMENTS of which the least CLOSED PART is all (what 0), the lowest such, as bits (1).",
                "cyclic(0, 1)", "makers(0, 0) -> 1", "makers(0, 1) -> 1", "cyclic(0, 6)", "makers(0, 0) -> 1",
                "makers(0, 1) -> 2", FLIPS, "makers(0, 0) -> 2", "makers(0, 1) -> 10", FIVE, "makers(0, 0) -> 1",
                "makers(0, 1) -> 4", THREE_NUCLEI, "makers(0, 0) -> 1", "makers(0, 1) -> 8", BOTH_MINUS,
                "makers(0, 0) -> 2", "makers(0, 1) -> 3", "cyclic(1, 2)", "product(1, 1, 1)", "makers(1, 0) -> 2",
                "makers(1, 1) -> 6");
        // With unit 1 element 0 makes all by itself.
        s.says(29, "the lowest such, as bits (1).",
                "cyclic(0, 3)", "makers(0, 1) -> 2", "rename(0, 3)", "unit(0, 0) -> 1", "makers(0, 0) -> 1",
                "makers(0, 1) -> 1", "cyclic(0, 6)", "rename(0, 719)", "makers(0, 1) -> 1");
        noSuch(s, 29, "NONE.", "makers", 1);
    }

    private static void group(Sentences s) {
        s.says(30, "MULTIPLICATION: the group of PERMUTATIONS made by all rows (x to a * x; LEFT), by all columns (x "
                + "to x * a; RIGHT), by both (ALL).",
                // Rows of y - x are turns, its columns are flips.
                MINUS, "group(0, 0) -> 3", "group(0, 1) -> 6", "group(0, 2) -> 6", "conjugate(0, 1)",
                "group(0, 0) -> 6", "group(0, 1) -> 3", "group(0, 2) -> 6", FLIPS, "group(0, 0) -> 6",
                "group(0, 1) -> 6", "group(0, 2) -> 36");
        s.says(30, "How many PERMUTATIONS: MULTIPLICATION LEFT (what 0), RIGHT (1), ALL (2).",
                "cyclic(0, 1)", "group(0, 0) -> 1", "group(0, 1) -> 1", "group(0, 2) -> 1", "cyclic(0, 6)",
                "group(0, 2) -> 6", THREE_NUCLEI, "group(0, 0) -> 48", "group(0, 1) -> 48", "group(0, 2) -> 720",
                FIVE, "group(0, 0) -> 120",
                // No row is the permutation that leaves all, but two of them make it.
                "bytes 2 1 0 0 1", "row(0)", "group(0, 0) -> 2", "group(0, 2) -> 2", BOTH_MINUS, "group(0, 0) -> 6");
        noSuch(s, 30, "NONE.", "group", 2);
    }

    private static void name(Sentences s) {
        s.says(31, "A NAME by a LIKENESS: of all TABLES that are LIKE it the first row by row.",
                "cyclic(0, 4)", "isotope(0, 1, 2)", "named(0, 0) -> 0123103223103201",
                "named(0, 1) -> 0123103223103201", "named(0, 2) -> 0123103223103201", row("210102021"),
                "named(0, 0) -> 102021210", "named(0, 1) -> 012120201", "named(0, 2) -> 012120201");
        s.says(31, "A NAME by a LIKENESS: of all TABLES that are LIKE it the first row by row.",
                row(TURNED_ONCE), "named(0, 1) -> " + TURNED_ONCE, "named(0, 2) -> " + TURNED, "conjugate(0, 1)",
                "named(0, 1) -> " + TURNED);
        // The first is reached by an isotope alone whose unit is not 0.
        s.says(31, "of all TABLES that are LIKE it the first row by row.",
                row("012345140523253104324051435210501432"), "name(0, 0, 0) -> 0",
                "named(0, 1) -> 012345103452230514345021451230524103", row("012345104523243051325410450132531204"),
                "named(0, 1) -> 012345103254234501345120451032520413");
        s.says(31, "The i-th cell, row by row, of the NAME of a TABLE by a LIKENESS (0 .. 2).",
                "cyclic(0, 2)", "rename(0, 1)", "name(0, 0, 0) -> 0", "name(0, 0, 3) -> 0", "name(0, 1, 0) -> 0",
                "name(0, 2, 3) -> 0", "name(0, 0, 4) -> NONE", "name(0, 0, -1) -> NONE", "name(0, -1, 0) -> NONE",
                "name(0, 3, 0) -> NONE", "name(0, MOST, 0) -> NONE", "name(0, 0, LEAST) -> NONE",
                "name(0, 0, MOST) -> NONE", "cyclic(0, 1)", "name(0, 0, 0) -> 0", "name(0, 2, 0) -> 0",
                "name(0, 0, 1) -> NONE");
        s.says(31, "The i-th cell, row by row,",
                "cyclic(0, 6)", "name(0, 2, 0) -> 0", "name(0, 2, 35) -> 2", "name(0, 2, 36) -> NONE",
                "name(0, 2, 34) -> 3", "name(0, 0, 6) -> 1", "name(0, 0, 7) -> 0", "name(0, 0, 36) -> NONE");
        s.says(31, "NONE.",
                "name(0, 0, 0) -> NONE", "cyclic(0, 2)", "name(1, 0, 0) -> NONE", "name(6, 0, 0) -> NONE",
                "name(-1, 0, 0) -> NONE", "name(MOST, 0, 0) -> NONE", "name(0, 0, 0) -> 0", "undo()",
                "name(0, 0, 0) -> NONE");
    }

    private static void alike(Sentences s) {
        s.says(32, "LIKENESS of two TABLES of one ORDER: 0 ISOMORPHIC: by one PERMUTATION p (p(x * y) is p(x) o "
                + "p(y));",
                "cyclic(0, 5)", "copy(1, 0)", "rename(1, 119)", "alike(0, 1, 0) -> 1", "turn(1, 0, 1, 0)",
                "alike(0, 1, 0) -> 0", "cyclic(0, 2)", "cyclic(1, 2)", "rename(1, 1)", "alike(0, 1, 0) -> 1");
        s.says(32, "1 ISOTOPIC: by three (r(x * y) is p(x) o q(y));",
                "cyclic(0, 4)", "copy(1, 0)", "turn(1, 0, 1, 0)", "alike(0, 1, 0) -> 0", "alike(0, 1, 1) -> 1",
                "cyclic(2, 2)", "product(2, 2, 2)", "alike(0, 2, 1) -> 0", "alike(1, 2, 1) -> 0", MINUS,
                "cyclic(1, 3)", "alike(0, 1, 0) -> 0", "alike(0, 1, 1) -> 1");
        s.says(32, "2 PARATOPIC: ISOTOPIC to a CONJUGATE.",
                row(TURNED), "copy(1, 0)", "conjugate(1, 1)", "alike(0, 1, 1) -> 0", "alike(0, 1, 2) -> 1",
                "copy(1, 0)", "conjugate(1, 2)", "alike(0, 1, 1) -> 1", "copy(1, 0)", "conjugate(1, 3)",
                "alike(0, 1, 1) -> 0", "alike(1, 0, 2) -> 1", "copy(1, 0)", "conjugate(1, 4)", "alike(0, 1, 1) -> 0",
                "alike(0, 1, 2) -> 1", "copy(1, 0)", "conjugate(1, 5)", "alike(0, 1, 1) -> 0", "alike(0, 1, 2) -> 1",
                "cyclic(1, 6)", "alike(0, 1, 2) -> 0");
        s.says(32, "Whether two TABLES are LIKE: 1, 0 (other ORDERS, too).",
                "cyclic(0, 1)", "cyclic(5, 2)", "alike(0, 5, 0) -> 0", "alike(5, 0, 1) -> 0", "alike(0, 5, 2) -> 0",
                "alike(0, 0, 0) -> 1", "alike(5, 5, 2) -> 1", "cyclic(5, 1)", "alike(0, 5, 0) -> 1",
                "alike(0, 5, 1) -> 1", "alike(0, 5, 2) -> 1");
        s.says(32, "NONE.",
                "cyclic(0, 2)", "cyclic(1, 3)", "alike(0, 2, 0) -> NONE", "alike(2, 0, 0) -> NONE",
                "alike(0, 6, 0) -> NONE", "alike(6, 0, 0) -> NONE", "alike(0, -1, 0) -> NONE",
                "alike(-1, 0, 0) -> NONE", "alike(0, 0, -1) -> NONE", "alike(0, 0, 3) -> NONE",
                "alike(0, 1, 3) -> NONE", "alike(0, 1, MOST) -> NONE", "alike(2, 2, 0) -> NONE",
                "alike(LEAST, MOST, 0) -> NONE");
    }

    private static void autos(Sentences s) {
        s.says(33, "AUTOMORPHISMS, AUTOTOPIES: in how many ways it is ISOMORPHIC, ISOTOPIC to itself.",
                // Of a group of n elements there are n times n autotopies for each automorphism.
                "cyclic(0, 5)", "autos(0, 0) -> 4", "autos(0, 1) -> 100", FLIPS, "autos(0, 0) -> 6",
                "autos(0, 1) -> 216", "cyclic(0, 2)", "product(0, 0, 0)", "autos(0, 0) -> 6", "autos(0, 1) -> 96",
                BOTH_MINUS, "autos(0, 0) -> 6", "autos(0, 1) -> 18", FIVE, "autos(0, 0) -> 3", "autos(0, 1) -> 12",
                row(TURNED), "autos(0, 0) -> 6", "autos(0, 1) -> 36");
        s.says(33, "AUTOMORPHISMS (what 0), AUTOTOPIES (1).",
                "cyclic(0, 1)", "autos(0, 0) -> 1", "autos(0, 1) -> 1", "cyclic(0, 6)", "autos(0, 0) -> 2",
                "autos(0, 1) -> 72", THREE_NUCLEI, "autos(0, 0) -> 1", "autos(0, 1) -> 8", "cyclic(1, 3)",
                "rename(0, 719)", "autos(1, 1) -> 18", "rename(0, 719)", "autos(1, 0) -> 2");
        noSuch(s, 33, "NONE.", "autos", 1);
    }

    private static void crossings(Sentences s) {
        s.says(34, "A TRANSVERSAL: n cells, one of each row, column and ELEMENT.",
                "cyclic(0, 1)", "crossings(0, 0) -> 1", "cyclic(0, 2)", "crossings(0, 0) -> 0", "cyclic(0, 3)",
                "crossings(0, 0) -> 3", "cyclic(0, 5)", "crossings(0, 0) -> 15", "cyclic(0, 6)",
                "crossings(0, 0) -> 0", row("012345103254234501325410450132541023"), "crossings(0, 0) -> 32");
        s.says(34, "MATES: in how many ways all cells fall asunder into TRANSVERSALS.",
                "cyclic(0, 1)", "crossings(0, 1) -> 1", "cyclic(0, 2)", "crossings(0, 1) -> 0", "cyclic(0, 3)",
                "crossings(0, 1) -> 1", "cyclic(0, 5)", "crossings(0, 1) -> 3", "cyclic(0, 2)", "product(0, 0, 0)",
                "crossings(0, 1) -> 2",
                // Transversals, but no way to share out all cells.
                row("012345103254234501325410450132541023"), "crossings(0, 1) -> 0", FIVE, "crossings(0, 0) -> 3",
                "crossings(0, 1) -> 0");
        s.says(34, "TRANSVERSALS (what 0), MATES (1), 2 times 2 parts that are tables (2; two rows, two columns, two "
                + "ELEMENTS).",
                "cyclic(0, 1)", "crossings(0, 2) -> 0", "cyclic(0, 2)", "crossings(0, 2) -> 1", "cyclic(0, 3)",
                "crossings(0, 2) -> 0", "cyclic(0, 4)", "crossings(0, 2) -> 4", "cyclic(0, 6)",
                "crossings(0, 2) -> 9", FIVE, "crossings(0, 2) -> 4", FLIPS, "crossings(0, 2) -> 27",
                "crossings(0, 0) -> 0", "crossings(0, 1) -> 0");
        noSuch(s, 34, "NONE.", "crossings", 2);
    }

    private static void cycles(Sentences s) {
        s.says(35, "CYCLES of two rows: how many (what 0), columns of the longest (1).",
                "cyclic(0, 6)", "cycles(0, 0, 1, 0) -> 1", "cycles(0, 5, 0, 1) -> 6", "cycles(0, 0, 3, 0) -> 3",
                "cycles(0, 3, 0, 1) -> 2", "cycles(0, 1, 5, 0) -> 2", "cycles(0, 1, 5, 1) -> 3", FIVE,
                "cycles(0, 0, 1, 0) -> 2", "cycles(0, 1, 0, 1) -> 3", "cyclic(0, 2)", "cycles(0, 0, 1, 0) -> 1",
                "cycles(0, 1, 0, 1) -> 2");
        s.says(35, "NONE (the same row, too).",
                "cyclic(0, 3)", "cycles(0, 0, 0, 0) -> NONE", "cycles(0, 2, 2, 1) -> NONE",
                "cycles(0, 0, 3, 0) -> NONE", "cycles(0, 3, 0, 0) -> NONE", "cycles(0, -1, 0, 0) -> NONE",
                "cycles(0, 0, -1, 0) -> NONE", "cycles(0, MOST, 0, 0) -> NONE", "cycles(0, 0, LEAST, 0) -> NONE",
                "cyclic(0, 1)", "cycles(0, 0, 0, 0) -> NONE");
        s.says(35, "NONE",
                "cyclic(0, 3)", "cycles(0, 0, 1, -1) -> NONE", "cycles(0, 0, 1, 2) -> NONE",
                "cycles(0, 0, 1, MOST) -> NONE", "cycles(1, 0, 1, 0) -> NONE", "cycles(6, 0, 1, 0) -> NONE",
                "cycles(-1, 0, 1, 0) -> NONE", "cycles(LEAST, 0, 1, 0) -> NONE");
    }

    private static void apart(Sentences s) {
        s.says(36, "In how many cells two TABLES are otherwise.",
                "cyclic(0, 4)", "copy(5, 0)", "apart(0, 5) -> 0", "apart(5, 5) -> 0", "turn(5, 0, 2, 0)",
                "apart(0, 5) -> 4", "cyclic(5, 4)", "isotope(5, 0, 1)", "apart(0, 5) -> 16", "apart(5, 0) -> 16",
                "cyclic(0, 6)", "copy(5, 0)", "isotope(5, 0, 1)", "apart(5, 0) -> 36", "cyclic(0, 1)",
                "apart(0, 0) -> 0");
        s.says(36, "NONE (other ORDERS, too).",
                "cyclic(0, 1)", "cyclic(1, 2)", "apart(0, 1) -> NONE", "apart(1, 0) -> NONE", "apart(0, 2) -> NONE",
                "apart(2, 0) -> NONE", "apart(2, 3) -> NONE", "apart(2, 2) -> NONE", "apart(0, 6) -> NONE",
                "apart(6, 0) -> NONE", "apart(0, -1) -> NONE", "apart(-1, 0) -> NONE", "apart(MOST, LEAST) -> NONE");
    }

    private static void near(Sentences s) {
        s.says(37, "A GROUP: x * (y * z) is (x * y) * z for all.",
                "cyclic(0, 6)", "near(0, 0) -> 0", "near(0, 1) -> 1", FLIPS, "near(0, 0) -> 0", "near(0, 1) -> 1",
                "cyclic(0, 2)", "product(0, 0, 0)", "near(0, 0) -> 0", "near(0, 1) -> 1", FIVE, "near(0, 0) -> 8",
                "near(0, 1) -> 3");
        s.says(37, "NEAREST GROUPS: tables of GROUPS (with these ELEMENTS, any of them the UNIT)",
                "cyclic(0, 2)", "rename(0, 1)", "near(0, 0) -> 0", "near(0, 1) -> 1", "cyclic(0, 6)",
                "rename(0, 719)", "near(0, 0) -> 0", FLIPS, "rename(0, 300)", "near(0, 0) -> 0", "near(0, 1) -> 1");
        s.says(37, "that are otherwise in the fewest cells.",
                "cyclic(0, 4)", "turn(0, 0, 2, 0)", "near(0, 0) -> 4", "near(0, 1) -> 1", row("0231310213202013"),
                "near(0, 0) -> 12", "near(0, 1) -> 16", row("0132231010233201"), "near(0, 0) -> 10",
                "near(0, 1) -> 4", row("0123230132101032"), "near(0, 0) -> 10", "near(0, 1) -> 6");
        s.says(37, "NEAREST GROUPS: in how many cells (what 0), how many tables (1).",
                "cyclic(0, 1)", "near(0, 0) -> 0", "near(0, 1) -> 1", THREE_NUCLEI, "near(0, 0) -> 4",
                "near(0, 1) -> 1", row(TURNED), "near(0, 0) -> 6", "near(0, 1) -> 4", BOTH_MINUS, "near(0, 0) -> 6",
                "near(0, 1) -> 3");
        noSuch(s, 37, "NONE.", "near", 1);
    }
}
