import java.util.HashSet;
import java.util.List;
import java.util.Set;

/** Each promise by its number: ordinary inputs, the edges that the document names, wrong inputs. */
public final class PromiseTest {
    private static final String COMMUTES = "x * y = y * x";
    private static final String JOINS = "x * (y * z) = (x * y) * z";
    /** The loop of order 5 that is no group and comes first. */
    private static final String FIVE = "5" + "01234" + "10342" + "23401" + "34120" + "42013";
    private static final int LEAST = Integer.MIN_VALUE;
    private static final int MOST = Integer.MAX_VALUE;

    private static int wrong = 0;

    private static void due(int promise, String what, int got, int want) {
        if (got != want) {
            wrong++;
            System.out.println("promise " + promise + ": " + what + " answered " + got + ", due is " + want);
        }
    }

    /** That a call was refused by a code, which status() tells, and that no table changed. */
    private static void refused(int promise, LoopTables x, int got, int code) {
        due(promise, "a call that can't be", got, code);
        due(promise, "status() behind it", x.status(), code);
    }

    private static String cells(LoopTables x, int table) {
        StringBuilder all = new StringBuilder();
        for (int i = 0; i < x.order(table); i++) {
            for (int k = 0; k < x.order(table); k++) {
                all.append(x.at(table, 0, i, k));
            }
        }
        return all.toString();
    }

    private static void stands(int promise, LoopTables x, int table, String want) {
        String got = cells(x, table);
        if (!got.equals(want)) {
            wrong++;
            System.out.println("promise " + promise + ": the table is " + got + ", due is " + want);
        }
    }

    private static LoopTables with(int... orders) {
        LoopTables x = new LoopTables();
        for (int i = 0; i < orders.length; i++) {
            if (orders[i] > 0) {
                x.cyclic(i, orders[i]);
            }
        }
        return x;
    }

    private static LoopTables withRow(String digits) {
        LoopTables x = new LoopTables();
        Tape.row(x, 0, digits);
        return x;
    }

    public static void main(String[] args) {
        newObject();
        tape();
        row();
        cyclicAndCopy();
        isotope();
        conjugate();
        rename();
        turn();
        product();
        extend();
        quotient();
        undoAndRedo();
        undoLetsGo();
        orderAndAt();
        unit();
        law();
        lawFaults();
        lawBounds();
        holdsAndFails();
        lawMeanings();
        listed();
        find();
        nucleus();
        counts();
        closed();
        parts();
        makers();
        group();
        name();
        namesOfAllLoops();
        alike();
        autos();
        crossings();
        cycles();
        apart();
        near();
        board();
        filled();
        fill();
        spare();
        walk();
        images();
        count();
        status();
        System.out.println(wrong == 0 ? "all promises are kept" : wrong + " answers are not as due");
        if (wrong != 0) {
            System.exit(1);
        }
    }

    private static void newObject() {
        LoopTables x = new LoopTables();
        due(1, "NONE", LoopTables.NONE, -1);
        for (int what = 0; what < 12; what++) {
            due(1, "count(" + what + ")", x.count(what), 0);
        }
        for (int t = 0; t < 6; t++) {
            due(1, "order(" + t + ")", x.order(t), -1);
        }
        due(1, "filled()", x.filled(), -1);
        due(1, "fault()", x.fault(), -1);
        due(1, "drawn(0, 0)", x.drawn(0, 0), -1);
        due(1, "status()", x.status(), 0);
        due(1, "listed(1, 1, 0)", x.listed(1, 1, 0), -1);
    }

    private static void tape() {
        LoopTables x = new LoopTables();
        for (int i = 1; i <= 20; i++) {
            due(2, "feed", x.feed(-1, LEAST, MOST, 0, i), 20 * i);
        }
        due(2, "feed beyond 400", x.feed(0, 0, 0, 0, 0), -1);
        due(2, "count(4)", x.count(4), 400);
        due(3, "end(401)", x.end(401), -1);
        due(3, "end(-1)", x.end(-1), -1);
        due(3, "end(least)", x.end(LEAST), -1);
        due(3, "end(400)", x.end(400), 400);
        due(3, "end(381)", x.end(381), 381);
        due(2, "feed to 401", x.feed(0, 0, 0, 0, 0), -1);
        due(3, "end(380)", x.end(380), 380);
        due(2, "feed to 400", x.feed(0, 0, 0, 0, 0), 400);
        due(3, "end(0)", x.end(0), 0);
        due(3, "count(4)", x.count(4), 0);
        due(3, "end(1)", x.end(1), -1);
        due(2, "count(5)", x.count(5), 0);
        due(2, "status()", x.status(), 0);
        // The highest byte of each number comes first, and bytes above 127 are no signs below 0.
        x.feed(0x02000101, 0x00000000, 0, 0, 0);
        x.end(5);
        due(2, "row(0)", x.row(0), 2);
        x.feed(0xff000000, 0, 0, 0, 0);
        x.end(1);
        due(2, "row(0)", x.row(0), -6);
        // What is fed behind stands behind what end() left.
        x.feed(0x01000000, 0, 0, 0, 0);
        x.end(1);
        x.feed(0, 0, 0, 0, 0);
        x.end(2);
        due(3, "row(0)", x.row(0), 1);
    }

    private static void row() {
        LoopTables x = new LoopTables();
        due(4, "row of order 1", Tape.row(x, 0, "10"), 1);
        due(4, "row of order 3", Tape.row(x, 5, "3" + "210" + "102" + "021"), 3);
        stands(4, x, 5, "210102021");
        due(4, "the tape", x.count(4), 0);
        due(4, "row of order 6", Tape.row(x, 0, "6" + "012345" + "123450" + "234501" + "345012" + "450123" + "501234"), 6);
        String[] bad = {"0", "", "1", "11", "100", "20110" + "0", "2011", "20101", "20011", "20121",
            "7" + "0".repeat(49), "30120", "2" + "01" + "01", "2" + "00" + "11", "3" + "012" + "120" + "203"};
        for (String digits : bad) {
            refused(4, x, Tape.row(x, 5, digits), -6);
            due(4, "the tape behind " + digits, x.count(4), 0);
        }
        stands(4, x, 5, "210102021");
        Tape.put(x, "abc");
        refused(4, x, x.row(6), -1);
        refused(4, x, x.row(-1), -1);
        due(4, "the tape behind -1", x.count(4), 3);
        refused(4, x, x.row(0), -6);
        due(4, "the tape behind -6", x.count(4), 0);
        due(4, "changes", x.count(10), 3);
    }

    private static void cyclicAndCopy() {
        LoopTables x = new LoopTables();
        for (int n = 1; n <= 6; n++) {
            due(5, "cyclic", x.cyclic(n - 1, n), n);
            for (int i = 0; i < n; i++) {
                for (int k = 0; k < n; k++) {
                    due(5, "at", x.at(n - 1, 0, i, k), (i + k) % n);
                }
            }
        }
        refused(5, x, x.cyclic(0, 0), -1);
        refused(5, x, x.cyclic(0, 7), -1);
        refused(5, x, x.cyclic(6, 1), -1);
        refused(5, x, x.cyclic(-1, 1), -1);
        refused(5, x, x.cyclic(LEAST, MOST), -1);
        due(6, "copy", x.copy(0, 5), 6);
        due(6, "apart", x.apart(0, 5), 0);
        due(6, "copy to itself", x.copy(2, 2), 3);
        due(6, "changes", x.count(10), 8);
        x.turn(5, 0, 1, 0);
        due(6, "the copy stays", x.at(0, 0, 0, 0), 0);
        LoopTables y = with(2);
        refused(6, y, y.copy(1, 3), -2);
        refused(6, y, y.copy(1, 6), -2);
        refused(6, y, y.copy(1, -1), -2);
        refused(6, y, y.copy(6, 0), -1);
        refused(6, y, y.copy(6, 3), -1);
        due(6, "order", y.order(1), -1);
    }

    private static void isotope() {
        LoopTables x = with(5);
        due(7, "isotope", x.isotope(0, 3, 4), 2);
        due(7, "unit", x.unit(0, 0), 2);
        due(7, "still cyclic", x.alike(0, 0, 0), 1);
        // x o y is (x / b) * (a \ y): here by a table without a unit.
        LoopTables y = withRow("3" + "021" + "210" + "102");
        due(7, "isotope", y.isotope(0, 1, 0), 2);
        stands(7, y, 0, "120201012");
        refused(7, y, y.isotope(0, 3, 0), -1);
        refused(7, y, y.isotope(0, 0, 3), -1);
        refused(7, y, y.isotope(0, -1, 0), -1);
        refused(7, y, y.isotope(1, 9, 0), -2);
        refused(7, y, y.isotope(6, 0, 0), -2);
        refused(7, y, y.isotope(-1, 0, 0), -2);
    }

    private static void conjugate() {
        for (int which = 0; which < 6; which++) {
            LoopTables x = withRow(FIVE);
            LoopTables y = withRow(FIVE);
            due(8, "conjugate", x.conjugate(0, which), 0);
            for (int a = 0; a < 5; a++) {
                for (int b = 0; b < 5; b++) {
                    int c = y.at(0, 0, a, b);
                    int got = which == 0 ? x.at(0, 0, a, b) == c ? 1 : 0
                            : which == 1 ? x.at(0, 0, b, a) == c ? 1 : 0
                            : which == 2 ? x.at(0, 0, a, c) == b ? 1 : 0
                            : which == 3 ? x.at(0, 0, c, a) == b ? 1 : 0
                            : which == 4 ? x.at(0, 0, b, c) == a ? 1 : 0
                            : x.at(0, 0, c, b) == a ? 1 : 0;
                    due(8, "a cell of conjugate " + which, got, 1);
                }
            }
            due(8, "changes", x.count(10), 2);
        }
        LoopTables x = withRow(FIVE);
        x.conjugate(0, 0);
        stands(8, x, 0, FIVE.substring(1));
        refused(8, x, x.conjugate(0, 6), -1);
        refused(8, x, x.conjugate(0, -1), -1);
        refused(8, x, x.conjugate(1, 6), -2);
        refused(8, x, x.conjugate(6, 0), -2);
    }

    private static void rename() {
        LoopTables x = with(3);
        // Permutation 1 of three is 0, 2, 1; 3 is 1, 2, 0.
        due(9, "rename", x.rename(0, 1), 0);
        stands(9, x, 0, "012120201");
        due(9, "rename", x.rename(0, 3), 0);
        stands(9, x, 0, "201012120");
        due(9, "unit", x.unit(0, 0), 1);
        refused(9, x, x.rename(0, 6), -1);
        refused(9, x, x.rename(0, -1), -1);
        refused(9, x, x.rename(1, -1), -2);
        refused(9, x, x.rename(9, 0), -2);
        LoopTables y = with(6, 1);
        due(9, "rename", y.rename(0, 719), 0);
        due(9, "unit", y.unit(0, 0), 5);
        due(9, "at", y.at(0, 0, 4, 4), 3);
        refused(9, y, y.rename(0, 720), -1);
        due(9, "rename of one element", y.rename(1, 0), 0);
        refused(9, y, y.rename(1, 1), -1);
    }

    private static void turn() {
        LoopTables x = with(4);
        due(10, "turn", x.turn(0, 0, 2, 1), 2);
        stands(10, x, 0, "0321123021033012");
        due(10, "turn", x.turn(0, 0, 2, 1), 2);
        stands(10, x, 0, "0123123023013012");
        due(10, "turn of all", x.turn(0, 3, 0, 2), 4);
        stands(10, x, 0, "3012123023010123");
        refused(10, x, x.turn(0, 1, 1, 0), -1);
        refused(10, x, x.turn(0, 4, 1, 0), -1);
        refused(10, x, x.turn(0, 0, 4, 0), -1);
        refused(10, x, x.turn(0, 0, 1, 4), -1);
        refused(10, x, x.turn(0, 0, 1, -1), -1);
        refused(10, x, x.turn(1, 1, 1, 0), -2);
        refused(10, x, x.turn(-1, 0, 1, 0), -2);
        LoopTables y = with(1);
        refused(10, y, y.turn(0, 0, 0, 0), -1);
        // From a column on: the next is where row a has what row b has in this one.
        LoopTables v = withRow(FIVE);
        due(10, "turn of two", v.turn(0, 0, 1, 0), 2);
        due(10, "at", v.at(0, 0, 0, 0), 1);
        due(10, "at", v.at(0, 0, 0, 2), 2);
        due(10, "turn of three", v.turn(0, 0, 1, 3), 3);
        stands(10, v, 0, "10342" + "01234" + "23401" + "34120" + "42013");
    }

    private static void product() {
        LoopTables x = with(2, 3, 1);
        due(11, "product", x.product(3, 0, 1), 6);
        stands(11, x, 3, "012345" + "120453" + "201534" + "345012" + "453120" + "534201");
        due(11, "product", x.product(3, 1, 0), 6);
        stands(11, x, 3, "012345" + "103254" + "234501" + "325410" + "450123" + "541032");
        due(11, "product onto itself", x.product(0, 0, 0), 4);
        due(11, "product by one", x.product(0, 2, 0), 4);
        due(11, "product of ones", x.product(4, 2, 2), 1);
        refused(11, x, x.product(5, 0, 1), -3);
        refused(11, x, x.product(5, 0, 5), -2);
        refused(11, x, x.product(5, 5, 0), -2);
        refused(11, x, x.product(5, 6, 0), -2);
        refused(11, x, x.product(5, 0, -1), -2);
        refused(11, x, x.product(6, 5, 0), -1);
        refused(11, x, x.product(-1, 0, 1), -1);
        due(11, "order", x.order(5), -1);
    }

    private static void extend() {
        LoopTables x = with(2, 3, 1, 4);
        due(12, "extend", x.extend(5, 0, 0), 4);
        stands(12, x, 5, "0123103223013210");
        due(12, "extend", x.extend(5, 0, 2), 4);
        // Bit 2 x + y for x 0, y 1.
        stands(12, x, 5, "0132102323013210");
        due(12, "bits from n times n on", x.extend(5, 0, 2 + 16 + 256), 4);
        stands(12, x, 5, "0132102323013210");
        due(12, "extend", x.extend(5, 1, 256), 6);
        due(12, "at", x.at(5, 0, 4, 4), 3);
        due(12, "at", x.at(5, 0, 4, 5), 2);
        due(12, "at", x.at(5, 0, 2, 4), 0);
        due(12, "extend of one", x.extend(5, 2, 1), 2);
        stands(12, x, 5, "1001");
        refused(12, x, x.extend(4, 3, 0), -3);
        refused(12, x, x.extend(4, 4, 0), -2);
        refused(12, x, x.extend(4, 9, 0), -2);
        refused(12, x, x.extend(4, 4, 512), -1);
        refused(12, x, x.extend(4, 0, -1), -1);
        refused(12, x, x.extend(6, 0, 0), -1);
        due(12, "extend, bits 511", x.extend(4, 1, 511), 6);
    }

    private static void quotient() {
        LoopTables x = with(6, 4);
        due(13, "quotient", x.quotient(2, 0, 1 + 8), 3);
        stands(13, x, 2, "012120201");
        due(13, "quotient", x.quotient(2, 0, 1 + 4 + 16), 2);
        stands(13, x, 2, "0110");
        due(13, "quotient by all", x.quotient(2, 0, 63), 1);
        due(13, "quotient by the unit", x.quotient(2, 0, 1), 6);
        due(13, "onto itself", x.quotient(1, 1, 5), 2);
        refused(13, x, x.quotient(3, 0, 0), -3);
        refused(13, x, x.quotient(3, 0, 3), -3);
        refused(13, x, x.quotient(3, 2, 2), -3);
        refused(13, x, x.quotient(3, 1, 4), -3);
        refused(13, x, x.quotient(3, 5, 1), -2);
        refused(13, x, x.quotient(3, 7, 1), -2);
        refused(13, x, x.quotient(3, 5, 64), -1);
        refused(13, x, x.quotient(3, 0, -1), -1);
        refused(13, x, x.quotient(6, 0, 1), -1);
        // A bit beyond the order is in no part of the loop.
        refused(13, x, x.quotient(3, 1, 1 + 4), -3);
        LoopTables y = withRow("6" + "012345" + "120453" + "201534" + "354021" + "435102" + "543210");
        due(13, "a group that does not commute", y.counts(0, 0), 216);
        due(13, "its turns", y.quotient(1, 0, 7), 2);
        due(13, "its flips are closed", y.closed(0, 9), 9);
        refused(13, y, y.quotient(1, 0, 9), -3);
        // The classes are in the order of their lowest elements, wherever the unit is.
        LoopTables z = with(4);
        z.rename(0, 23);
        due(13, "unit", z.unit(0, 0), 3);
        due(13, "quotient", z.quotient(1, 0, 2 + 8), 2);
        stands(13, z, 1, "1001");
        z.turn(0, 0, 1, 0);
        refused(13, z, z.quotient(1, 0, 15), -3);
    }

    private static void undoAndRedo() {
        LoopTables x = new LoopTables();
        refused(14, x, x.undo(), -3);
        refused(15, x, x.redo(), -3);
        x.cyclic(0, 2);
        x.cyclic(0, 3);
        x.cyclic(1, 4);
        x.cyclic(1, 4);
        due(14, "a change into what it was", x.undo(), 3);
        due(14, "order", x.order(1), 4);
        due(14, "undo", x.undo(), 2);
        due(14, "the table is none again", x.order(1), -1);
        due(14, "count(0)", x.count(0), 1);
        due(14, "count(11)", x.count(11), 2);
        due(14, "undo", x.undo(), 1);
        due(14, "order", x.order(0), 2);
        due(15, "redo", x.redo(), 2);
        due(15, "order", x.order(0), 3);
        due(15, "redo", x.redo(), 1);
        due(15, "order", x.order(1), 4);
        refused(15, x, x.cyclic(0, 9), -1);
        due(15, "a refused call lets redo be", x.count(11), 1);
        x.board(3);
        x.walk(0, 1, 3);
        due(15, "calls that change no table", x.count(11), 1);
        x.copy(5, 0);
        due(15, "a change otherwise", x.count(11), 0);
        refused(15, x, x.redo(), -3);
        due(14, "count(10)", x.count(10), 4);
        // Each way to change a table can be undone.
        LoopTables y = with(4);
        Tape.row(y, 0, "10");
        y.cyclic(0, 4);
        y.copy(1, 0);
        y.isotope(0, 1, 1);
        y.conjugate(0, 1);
        y.rename(0, 5);
        y.turn(0, 0, 1, 0);
        y.cyclic(2, 2);
        y.product(3, 2, 2);
        y.extend(4, 2, 1);
        y.quotient(5, 3, 1);
        y.find(5, 3, 0, 0, 0);
        y.board(2);
        y.fill(5);
        due(14, "changes", y.count(10), 14);
        due(14, "undo", y.undo(), 13);
        due(14, "find is there", y.order(5), 3);
        due(14, "undo", y.undo(), 12);
        due(14, "quotient is there", y.order(5), 4);
    }

    private static void undoLetsGo() {
        LoopTables x = new LoopTables();
        for (int i = 0; i < 35; i++) {
            x.cyclic(i % 6, 1 + i % 5);
            due(14, "count(10)", x.count(10), Math.min(i + 1, 30));
        }
        for (int i = 29; i >= 0; i--) {
            due(14, "undo", x.undo(), i);
        }
        refused(14, x, x.undo(), -3);
        due(14, "what can't be undone stays", x.order(4), 5);
        due(14, "and the one without a change", x.order(5), -1);
        for (int i = 29; i >= 0; i--) {
            due(15, "redo", x.redo(), i);
        }
        refused(15, x, x.redo(), -3);
        for (int i = 29; i < 35; i++) {
            due(15, "order", x.order(i % 6), 1 + i % 5);
        }
    }

    private static void orderAndAt() {
        LoopTables x = with(0, 3);
        due(16, "order", x.order(1), 3);
        due(16, "order", x.order(0), -1);
        due(16, "order", x.order(6), -1);
        due(16, "order", x.order(-1), -1);
        Tape.row(x, 0, "3" + "021" + "210" + "102");
        for (int a = 0; a < 3; a++) {
            for (int b = 0; b < 3; b++) {
                due(17, "x * (x \\ y)", x.at(0, 0, a, x.at(0, 1, a, b)), b);
                due(17, "(x / y) * y", x.at(0, 0, x.at(0, 2, a, b), b), a);
            }
        }
        due(17, "at", x.at(0, 0, 1, 0), 2);
        due(17, "at", x.at(0, 1, 1, 0), 2);
        due(17, "at", x.at(0, 2, 1, 0), 2);
        due(17, "at", x.at(0, 2, 0, 1), 2);
        int[][] bad = {{2, 0, 0, 0}, {6, 0, 0, 0}, {0, 3, 0, 0}, {0, -1, 0, 0}, {0, 0, 3, 0}, {0, 0, 0, 3},
            {0, 1, -1, 0}, {0, 2, 0, -1}, {0, 0, LEAST, MOST}};
        for (int[] b : bad) {
            due(17, "at that can't be", x.at(b[0], b[1], b[2], b[3]), -1);
        }
        due(17, "status()", x.status(), 0);
        due(17, "count(5)", x.count(5), 0);
    }

    private static void unit() {
        LoopTables x = with(3);
        for (int what = 0; what < 3; what++) {
            due(18, "unit", x.unit(0, what), 0);
        }
        due(18, "unit", x.unit(0, 3), -1);
        due(18, "unit", x.unit(0, -1), -1);
        due(18, "unit", x.unit(1, 0), -1);
        due(18, "unit", x.unit(6, 0), -1);
        Tape.row(x, 0, "3" + "120" + "012" + "201");
        due(18, "unit", x.unit(0, 0), -1);
        due(18, "left", x.unit(0, 1), 1);
        due(18, "right", x.unit(0, 2), -1);
        x.conjugate(0, 1);
        due(18, "unit", x.unit(0, 0), -1);
        due(18, "left", x.unit(0, 1), -1);
        due(18, "right", x.unit(0, 2), 1);
    }

    private static void law() {
        LoopTables x = new LoopTables();
        for (int i = 0; i < 8; i++) {
            due(19, "law", Tape.law(x, "  x*y = y*x "), i);
            due(19, "the tape", x.count(4), 0);
            due(20, "fault", x.fault(), -1);
        }
        refused(19, x, Tape.law(x, "x = x"), -5);
        due(19, "the tape", x.count(4), 0);
        refused(19, x, Tape.law(x, "x = "), -5);
        due(20, "nothing was read", x.fault(), -1);
        due(19, "count(1)", x.count(1), 8);
        LoopTables y = new LoopTables();
        refused(19, y, y.law(), -6);
        due(20, "fault of no text", y.fault(), 0);
        refused(19, y, Tape.law(y, "   "), -6);
        due(20, "fault of blanks", y.fault(), 3);
        due(19, "the tape", y.count(4), 0);
        due(19, "law", Tape.law(y, "x=x"), 0);
        due(20, "fault", y.fault(), -1);
        Tape.law(y, "=");
        due(20, "fault", y.fault(), 0);
        for (int i = 0; i < 8; i++) {
            Tape.law(y, i < 6 ? "y=y" : i == 6 ? "y y" : "y=y");
        }
        due(19, "count(1)", y.count(1), 8);
        due(20, "fault", y.fault(), -1);
    }

    private static void lawFaults() {
        Object[][] all = {
            {"x", 1}, {"x = ", 4}, {"x = x,", 6}, {"x = x if", 8}, {"x = x if x", 10}, {"x = x if x =", 12},
            {"if x = x", 0}, {", x = x", 0}, {"= x", 0}, {"x = x = x", 6}, {"x, x = x", 1}, {"x if x = x", 2},
            {"x = x if x = x if x = x", 15}, {"x = x if x = x, y = y", -1}, {"x = x, y = y if z = z", -1},
            {"(x = y", 3}, {"(x) = y", -1}, {"((x)) = y", -1}, {"() = y", 1}, {"(x", 2}, {"x) = y", 1},
            {"x = y)", 5}, {"x = (y", 6}, {"x (y) = x", 2}, {"(x)(y) = x", 3}, {"(x) y = x", 4},
            {"x * = x", 4}, {"* x = x", 0}, {"x ** x = x", 3}, {"x * / x = x", 4}, {"x = x *", 7},
            {"xy = x", 0}, {"x = xy", 4}, {"x = xif", 4}, {"x = xif x = x", 4}, {"x = x ifx = x", 6},
            {"x = (x)if(x) = x", -1}, {"x=x if(x)=x", -1}, {"x = x i f x = x", 6}, {"x = x fi x = x", 6},
            {"a = x", 0}, {"X = x", 0}, {"x = E", 4}, {"e = e", -1}, {"ee = e", 0}, {"x\t= x", 1}, {"1 = x", 0},
            {"x = x;", 5}, {"x = x.", 5}, {"x / y \\ z = e", -1}, {"x+y = x", 1}, {"x = x\u0000", 5},
            {"\u00ff", 0}, {"x \u00e9", 2}, {"   a", 3}, {"x = x   ", -1}, {"x   ", 4}, {"x = x if   ", 11},
            {"x = (if", 5}, {"x = x, if", 7}, {"x = x if if", 9}, {"x = x ,, x = x", 7}, {"x = x if , x = x", 9},
            {"(x, y) = x", 2}, {"(x if", 3}, {"x = e,e = x", -1}, {"x=y if e=x,y=z,z=e", -1},
            {"x = iff", 4}, {"x = x iff x = x", 6}};
        for (Object[] one : all) {
            LoopTables x = new LoopTables();
            int fault = (Integer) one[1];
            due(19, "law " + one[0], Tape.law(x, (String) one[0]), fault < 0 ? 0 : -6);
            due(20, "fault of " + one[0], x.fault(), fault);
            due(19, "count(1)", x.count(1), fault < 0 ? 1 : 0);
        }
    }

    private static void lawBounds() {
        LoopTables x = new LoopTables();
        due(19, "31 letters", Tape.law(x, "x" + "*y".repeat(29) + "=e"), 0);
        due(19, "32 letters", Tape.law(x, "x" + "*y".repeat(30) + "=e"), 1);
        due(19, "33 letters", Tape.law(x, "x" + "*y".repeat(31) + "=e"), -6);
        due(20, "the 33rd", x.fault(), 64);
        due(19, "33 letters over both sides", Tape.law(x, "x=x" + ",y=y".repeat(14) + " if z=e,e = z"), -6);
        due(20, "the 33rd", x.fault(), 67);
        due(19, "32 letters over both sides", Tape.law(x, "x=x" + ",y=y".repeat(14) + " if z=e"), 2);
        due(19, "8 brackets", Tape.law(x, "(".repeat(8) + "x" + ")".repeat(8) + "=x"), 3);
        due(19, "9 brackets", Tape.law(x, "(".repeat(9) + "x" + ")".repeat(9) + "=x"), -6);
        due(20, "the 9th", x.fault(), 8);
        due(19, "brackets beside one another", Tape.law(x, "(x)" + "*(y)".repeat(20) + "=((x))"), 4);
        String deep = "x=" + "(x*".repeat(8) + "(x)" + ")".repeat(8);
        due(19, "the 9th behind letters", Tape.law(x, deep), -6);
        due(20, "its place", x.fault(), 26);
        due(19, "400 bytes", Tape.law(x, "x" + " ".repeat(397) + "=x"), 5);
        due(19, "400 bytes with a fault at the end", Tape.law(x, "x" + " ".repeat(398) + "="), -6);
        due(20, "its place", x.fault(), 400);
    }

    private static void holdsAndFails() {
        LoopTables x = withRow(FIVE);
        x.cyclic(1, 4);
        Tape.law(x, COMMUTES);
        Tape.law(x, JOINS);
        Tape.law(x, "z * z = e");
        due(21, "holds", x.holds(1, 0), 1);
        due(21, "holds", x.holds(0, 0), 0);
        due(21, "holds", x.holds(1, 1), 1);
        due(21, "holds", x.holds(0, 1), 0);
        due(21, "holds", x.holds(2, 0), -1);
        due(21, "holds", x.holds(0, 3), -1);
        due(21, "holds", x.holds(0, -1), -1);
        due(21, "holds", x.holds(6, 0), -1);
        due(22, "fails", x.fails(0, 0, 0), 25 - x.counts(0, 1));
        due(22, "fails", x.fails(0, 1, 0), 125 - x.counts(0, 0));
        // 1 * (1 * 2) is 1 * 3, 4, but (1 * 1) * 2 is 2.
        due(22, "x of the first", x.fails(0, 1, 1), 1);
        due(22, "y of the first", x.fails(0, 1, 2), 1);
        due(22, "z of the first", x.fails(0, 1, 3), 2);
        due(22, "x of the first", x.fails(0, 0, 1), 2);
        due(22, "y of the first", x.fails(0, 0, 2), 3);
        due(22, "z is not in it", x.fails(0, 0, 3), 0);
        due(22, "letters that are not in it are one", x.fails(1, 2, 0), 2);
        due(22, "x", x.fails(1, 2, 1), 0);
        due(22, "y", x.fails(1, 2, 2), 0);
        due(22, "z", x.fails(1, 2, 3), 1);
        due(22, "without", x.fails(1, 0, 0), 0);
        for (int what = 1; what <= 3; what++) {
            due(22, "without", x.fails(1, 0, what), -1);
        }
        due(22, "fails", x.fails(0, 0, 4), -1);
        due(22, "fails", x.fails(0, 0, -1), -1);
        due(22, "fails", x.fails(0, 3, 0), -1);
        due(22, "fails", x.fails(2, 0, 0), -1);
        due(22, "fails", x.fails(-1, 0, 0), -1);
    }

    private static void lawMeanings() {
        LoopTables x = withRow("3" + "021" + "210" + "102");
        // No unit: e is 0. Here 0 * 0 is 0, 1 * 1 is 1, 2 * 2 is 2.
        String[][] all = {
            {"e * e = e", "0"}, {"x * x = x", "0"}, {"x * x = e", "2"}, {"e = x", "2"},
            {"x * y / y = x", "0"}, {"x / y * y = x", "0"}, {"x \\ (x * y) = y", "0"}, {"x * (x \\ y) = y", "0"},
            // From the left: (x * y) * z.
            {"x * y * z = (x * y) * z", "0"}, {"x * y * z = x * (y * z)", "18"},
            {"x / y \\ z = (x / y) \\ z", "0"}, {"x \\ y / z = (x \\ y) / z", "0"},
            {"x = y", "6"}, {"x = y, x = z", "24"}, {"x = y if x = y", "0"}, {"x = y if y = z", "6"},
            {"x = y if x = z, y = z", "0"}, {"x = y if z = e", "6"}, {"x = x if y = z", "0"},
            {"x = y if x * x = y", "0"}, {"x = e if y = y", "6"}, {"z = e if x = y, y = z", "2"}};
        for (String[] one : all) {
            LoopTables y = withRow("3" + "021" + "210" + "102");
            due(22, "law " + one[0], Tape.law(y, one[0]), 0);
            due(22, "fails of " + one[0], y.fails(0, 0, 0), Integer.parseInt(one[1]));
            due(21, "holds of " + one[0], y.holds(0, 0), one[1].equals("0") ? 1 : 0);
        }
        Tape.law(x, "e * x = x");
        due(21, "e is 0 without a unit", x.holds(0, 0), 0);
        x.isotope(0, 1, 2);
        due(21, "e is the unit", x.holds(0, 0), 1);
        // A unit of one side is no UNIT.
        Tape.row(x, 0, "3" + "120" + "012" + "201");
        due(21, "e is 0 with a unit of left alone", x.holds(0, 0), 0);
    }

    private static void listed() {
        LoopTables x = new LoopTables();
        int[] loops = {1, 1, 1, 4, 56, 9408};
        for (int n = 1; n <= 6; n++) {
            due(23, "listed " + n, x.listed(n, 0, 0), loops[n - 1]);
        }
        due(23, "listed", x.listed(0, 0, 0), -1);
        due(23, "listed", x.listed(7, 0, 0), -1);
        due(23, "no such law", x.listed(3, 1, 0), -1);
        due(23, "no such law", x.listed(3, 0, 1), -1);
        Tape.law(x, COMMUTES);
        Tape.law(x, JOINS);
        // Groups with unit 0: 60 cyclic ones of order 6, 20 others.
        due(23, "groups", x.listed(6, 2, 0), 80);
        due(23, "groups that commute", x.listed(6, 3, 0), 60);
        due(23, "groups that do not", x.listed(6, 2, 1), 20);
        due(23, "all that commute", x.listed(6, 1, 0), 456);
        due(23, "others that commute", x.listed(6, 1, 2), 396);
        due(23, "neither", x.listed(6, 0, 3), 9408 - 456 - 20);
        due(23, "both ways", x.listed(5, 1, 1), 0);
        due(23, "commuting", x.listed(5, 1, 0), 6);
        due(23, "bits", x.listed(4, 4, 0), -1);
        due(23, "bits", x.listed(4, 0, 4), -1);
        due(23, "bits", x.listed(4, -1, 0), -1);
        due(23, "bits", x.listed(4, 0, LEAST), -1);
        due(23, "order 1", x.listed(1, 3, 0), 1);
        due(23, "order 1", x.listed(1, 0, 1), 0);
        due(23, "status()", x.status(), 0);
    }

    private static void find() {
        LoopTables x = new LoopTables();
        due(24, "find", x.find(0, 5, 0, 0, 0), 0);
        stands(24, x, 0, FIVE.substring(1));
        refused(24, x, x.find(0, 5, 0, 0, 56), -3);
        refused(24, x, x.find(0, 5, 0, 0, -1), -3);
        refused(24, x, x.find(0, 5, 0, 0, LEAST), -3);
        refused(24, x, x.find(0, 7, 0, 0, 0), -1);
        refused(24, x, x.find(0, 0, 0, 0, 0), -1);
        refused(24, x, x.find(6, 5, 0, 0, 0), -1);
        refused(24, x, x.find(-1, 5, 0, 0, 0), -1);
        refused(24, x, x.find(0, 5, 1, 0, 0), -1);
        refused(24, x, x.find(0, 5, 0, 1, 99), -1);
        refused(24, x, x.find(0, 5, -1, 0, 0), -1);
        List<int[][]> all = Reference.loops(5);
        for (int i = 0; i < 56; i++) {
            LoopTables y = new LoopTables();
            due(24, "find", y.find(1, 5, 0, 0, i), 0);
            stands(24, y, 1, digits(all.get(i)));
        }
        due(24, "order 6", x.find(2, 6, 0, 0, 9407), 0);
        due(24, "unit", x.unit(2, 0), 0);
        refused(24, x, x.find(2, 6, 0, 0, 9408), -3);
        Tape.law(x, JOINS);
        due(24, "the first that does not join", x.find(3, 5, 0, 1, 0), 0);
        due(24, "it is the first of all", x.apart(3, 0), 0);
        due(24, "holds", x.holds(3, 0), 0);
        due(24, "the last group", x.find(3, 6, 1, 0, 79), 0);
        due(24, "counts", x.counts(3, 0), 216);
        refused(24, x, x.find(3, 6, 1, 0, 80), -3);
    }

    private static void nucleus() {
        LoopTables x = withRow("6" + "012345" + "120453" + "201534" + "354021" + "435102" + "543210");
        for (int what = 0; what < 4; what++) {
            due(25, "nucleus of a group", x.nucleus(0, what), 63);
        }
        due(25, "commutant", x.nucleus(0, 4), 1);
        due(25, "centre", x.nucleus(0, 5), 1);
        due(25, "what", x.nucleus(0, 6), -1);
        due(25, "what", x.nucleus(0, -1), -1);
        due(25, "no table", x.nucleus(1, 0), -1);
        due(25, "no table", x.nucleus(6, 0), -1);
        // x * y is - x - y modulo 3 has no nuclei, but commutes.
        LoopTables y = withRow("3" + "021" + "210" + "102");
        for (int what = 0; what < 4; what++) {
            due(25, "nucleus", y.nucleus(0, what), 0);
        }
        due(25, "commutant", y.nucleus(0, 4), 7);
        due(25, "centre", y.nucleus(0, 5), 0);
        // x * y is y - x modulo 3: a * (x * y) is y - x - a, (a * x) * y is y - x + a.
        LoopTables z = withRow("3" + "012" + "201" + "120");
        due(25, "left", z.nucleus(0, 0), 1);
        due(25, "middle", z.nucleus(0, 1), 0);
        due(25, "right", z.nucleus(0, 2), 0);
        z.conjugate(0, 1);
        due(25, "left", z.nucleus(0, 0), 0);
        due(25, "right", z.nucleus(0, 2), 1);
        due(25, "all three", z.nucleus(0, 3), 0);
        due(25, "commutant", z.nucleus(0, 4), 0);
    }

    private static void counts() {
        LoopTables x = with(6, 1);
        due(26, "joined", x.counts(0, 0), 216);
        due(26, "commuting", x.counts(0, 1), 36);
        due(26, "joined", x.counts(1, 0), 1);
        Tape.row(x, 0, "3" + "012" + "201" + "120");
        due(26, "joined", x.counts(0, 0), 9);
        due(26, "commuting", x.counts(0, 1), 3);
        due(26, "what", x.counts(0, 2), -1);
        due(26, "what", x.counts(0, -1), -1);
        due(26, "no table", x.counts(2, 0), -1);
        due(26, "no table", x.counts(-1, 0), -1);
    }

    private static void closed() {
        LoopTables x = with(6, 1);
        int[] least = {1, 63, 21, 9, 21, 63};
        for (int a = 0; a < 6; a++) {
            due(27, "closed", x.closed(0, 1 << a), least[a]);
        }
        due(27, "of two", x.closed(0, 4 + 8), 63);
        due(27, "all", x.closed(0, 63), 63);
        due(27, "empty", x.closed(0, 0), -1);
        due(27, "beyond", x.closed(0, 64), -1);
        due(27, "below", x.closed(0, -1), -1);
        due(27, "of one element", x.closed(1, 1), 1);
        due(27, "beyond", x.closed(1, 2), -1);
        due(27, "no table", x.closed(2, 1), -1);
        due(27, "no table", x.closed(6, 1), -1);
        LoopTables y = withRow("3" + "021" + "210" + "102");
        due(27, "without a unit", y.closed(0, 2), 2);
    }

    private static void parts() {
        LoopTables x = with(6, 4, 1);
        due(28, "closed", x.parts(0, 0), 4);
        due(28, "normal", x.parts(0, 1), 4);
        due(28, "closed", x.parts(1, 0), 3);
        due(28, "of one", x.parts(2, 0), 1);
        due(28, "of one", x.parts(2, 1), 1);
        due(28, "what", x.parts(0, 2), -1);
        due(28, "what", x.parts(0, -1), -1);
        due(28, "no table", x.parts(5, 0), -1);
        due(28, "no table", x.parts(6, 1), -1);
        LoopTables y = withRow("6" + "012345" + "120453" + "201534" + "354021" + "435102" + "543210");
        due(28, "closed", y.parts(0, 0), 6);
        due(28, "normal", y.parts(0, 1), 3);
        LoopTables z = withRow("3" + "021" + "210" + "102");
        due(28, "closed", z.parts(0, 0), 4);
        due(28, "no loop", z.parts(0, 1), -1);
        // In this loop 0, 1 are closed, but not normal.
        LoopTables v = withRow(FIVE);
        due(28, "normal", v.parts(0, 1), 2);
        due(28, "closed", v.closed(0, 2), 3);
    }

    private static void makers() {
        LoopTables x = with(6, 1, 2);
        due(29, "fewest", x.makers(0, 0), 1);
        due(29, "lowest", x.makers(0, 1), 2);
        due(29, "fewest", x.makers(1, 0), 1);
        due(29, "lowest", x.makers(1, 1), 1);
        x.product(3, 2, 2);
        due(29, "fewest", x.makers(3, 0), 2);
        due(29, "lowest", x.makers(3, 1), 2 + 4);
        due(29, "what", x.makers(0, 2), -1);
        due(29, "what", x.makers(0, -1), -1);
        due(29, "no table", x.makers(4, 0), -1);
        due(29, "no table", x.makers(6, 0), -1);
        LoopTables y = withRow("6" + "012345" + "120453" + "201534" + "354021" + "435102" + "543210");
        due(29, "fewest", y.makers(0, 0), 2);
        due(29, "lowest", y.makers(0, 1), 2 + 8);
        // Each element is closed by itself, and two make all.
        LoopTables z = withRow("3" + "021" + "210" + "102");
        due(29, "fewest", z.makers(0, 0), 2);
        due(29, "lowest", z.makers(0, 1), 3);
    }

    private static void group() {
        LoopTables x = with(6, 1);
        for (int what = 0; what < 3; what++) {
            due(30, "cyclic", x.group(0, what), 6);
            due(30, "one", x.group(1, what), 1);
        }
        due(30, "what", x.group(0, 3), -1);
        due(30, "what", x.group(0, -1), -1);
        due(30, "no table", x.group(2, 0), -1);
        due(30, "no table", x.group(6, 0), -1);
        LoopTables y = withRow("6" + "012345" + "120453" + "201534" + "354021" + "435102" + "543210");
        due(30, "left", y.group(0, 0), 6);
        due(30, "right", y.group(0, 1), 6);
        due(30, "all", y.group(0, 2), 36);
        // x * y is y - x modulo 3: rows are turns, columns are flips.
        LoopTables z = withRow("3" + "012" + "201" + "120");
        due(30, "left", z.group(0, 0), 3);
        due(30, "right", z.group(0, 1), 6);
        due(30, "all", z.group(0, 2), 6);
        LoopTables v = withRow(FIVE);
        due(30, "all", v.group(0, 2), 120);
    }

    private static void name() {
        LoopTables x = with(4);
        x.isotope(0, 1, 2);
        x.rename(0, 13);
        for (int likeness = 0; likeness < 3; likeness++) {
            StringBuilder got = new StringBuilder();
            for (int i = 0; i < 16; i++) {
                got.append(x.name(0, likeness, i));
            }
            // The cyclic one of order 4 with 1 * 1 = 0 comes first.
            due(31, "name " + got, got.toString().equals("0123103223103201") ? 1 : 0, 1);
        }
        due(31, "cell", x.name(0, 0, 16), -1);
        due(31, "cell", x.name(0, 0, -1), -1);
        due(31, "likeness", x.name(0, 3, 0), -1);
        due(31, "likeness", x.name(0, -1, 0), -1);
        due(31, "no table", x.name(1, 0, 0), -1);
        due(31, "no table", x.name(6, 0, 0), -1);
        // The name follows the table that is there now.
        x.cyclic(0, 3);
        due(31, "cell", x.name(0, 2, 8), 1);
        x.cyclic(0, 1);
        due(31, "cell", x.name(0, 0, 0), 0);
        // x * y is 2 - x - y modulo 3: isomorphic to 1 - x - y alone.
        LoopTables y = withRow("3" + "210" + "102" + "021");
        String first = "102021210";
        for (int i = 0; i < 9; i++) {
            due(31, "cell of a table without a unit", y.name(0, 0, i), first.charAt(i) - '0');
        }
    }

    private static String digits(int[][] t) {
        StringBuilder digits = new StringBuilder();
        for (int[] row : t) {
            for (int value : row) {
                digits.append(value);
            }
        }
        return digits.toString();
    }

    private static String nameOf(int[][] t, int likeness) {
        LoopTables x = new LoopTables();
        Tape.row(x, 0, t.length + digits(t));
        StringBuilder name = new StringBuilder();
        for (int i = 0; i < t.length * t.length; i++) {
            name.append(x.name(0, likeness, i));
        }
        return name.toString();
    }

    /** The known numbers of loops up to likeness, and of all latin tables, counted by their autotopies. */
    private static void namesOfAllLoops() {
        int[][] want = {{1, 1, 1}, {1, 1, 1}, {1, 1, 1}, {2, 2, 2}, {6, 2, 2}, {109, 22, 12}};
        long[] latin = {1, 2, 12, 576, 161280, 812851200};
        long[] factorials = {1, 2, 6, 24, 120, 720};
        for (int n = 1; n <= 6; n++) {
            Set<String> isomorphic = new HashSet<>();
            Set<String> isotopic = new HashSet<>();
            Set<String> paratopic = new HashSet<>();
            for (int[][] t : Reference.loops(n)) {
                isomorphic.add(nameOf(t, 0));
                isotopic.add(nameOf(t, 1));
            }
            long tables = 0;
            for (String name : isotopic) {
                LoopTables x = withRow(n + name);
                StringBuilder other = new StringBuilder();
                for (int i = 0; i < n * n; i++) {
                    other.append(x.name(0, 2, i));
                }
                paratopic.add(other.toString());
                tables += factorials[n - 1] * factorials[n - 1] * factorials[n - 1] / x.autos(0, 1);
                due(31, "the name's own name", nameOf(table(name), 1).equals(name) ? 1 : 0, 1);
            }
            due(31, "isomorphic ones of " + n, isomorphic.size(), want[n - 1][0]);
            due(31, "isotopic ones of " + n, isotopic.size(), want[n - 1][1]);
            due(31, "paratopic ones of " + n, paratopic.size(), want[n - 1][2]);
            due(33, "latin tables of " + n, tables == latin[n - 1] ? 1 : 0, 1);
            long loops = 0;
            for (String name : isomorphic) {
                loops += factorials[n - 1] / n / withRow(n + name).autos(0, 0);
            }
            due(33, "loops of " + n, (int) loops, Reference.loops(n).size());
        }
    }

    private static int[][] table(String digits) {
        int n = (int) Math.round(Math.sqrt(digits.length()));
        int[][] t = new int[n][n];
        for (int i = 0; i < n * n; i++) {
            t[i / n][i % n] = digits.charAt(i) - '0';
        }
        return t;
    }

    private static void alike() {
        LoopTables x = with(4, 2, 4, 3);
        x.product(1, 1, 1);
        for (int likeness = 0; likeness < 3; likeness++) {
            due(32, "the two groups", x.alike(0, 1, likeness), 0);
            due(32, "itself", x.alike(1, 1, likeness), 1);
            due(32, "other orders", x.alike(0, 3, likeness), 0);
        }
        x.rename(2, 17);
        due(32, "renamed", x.alike(0, 2, 0), 1);
        x.turn(2, 0, 1, 0);
        due(32, "its rows renamed", x.alike(0, 2, 0), 0);
        due(32, "its rows renamed", x.alike(0, 2, 1), 1);
        due(32, "its rows renamed", x.alike(0, 2, 2), 1);
        due(32, "likeness", x.alike(0, 2, 3), -1);
        due(32, "likeness", x.alike(0, 3, -1), -1);
        due(32, "no table", x.alike(0, 5, 0), -1);
        due(32, "no table", x.alike(6, 0, 0), -1);
        // Of the 22 isotopic kinds of order 6 some are conjugates of others.
        Set<String> kinds = new HashSet<>();
        for (int[][] t : Reference.loops(6)) {
            if (kinds.size() < 22) {
                kinds.add(nameOf(t, 1));
            }
        }
        int turned = 0;
        for (String kind : kinds) {
            LoopTables y = withRow("6" + kind);
            for (int which = 0; which < 6; which++) {
                y.copy(1, 0);
                y.conjugate(1, which);
                due(32, "a conjugate", y.alike(0, 1, 2), 1);
                due(32, "the other way", y.alike(1, 0, 2), 1);
                turned += 1 - y.alike(0, 1, 1);
            }
        }
        due(32, "conjugates that are not isotopic", turned > 0 ? 1 : 0, 1);
    }

    private static void autos() {
        int[] cyclic = {1, 1, 2, 2, 4, 2};
        for (int n = 1; n <= 6; n++) {
            LoopTables x = with(n);
            due(33, "automorphisms", x.autos(0, 0), cyclic[n - 1]);
            due(33, "autotopies", x.autos(0, 1), cyclic[n - 1] * n * n);
        }
        LoopTables y = withRow("6" + "012345" + "120453" + "201534" + "354021" + "435102" + "543210");
        due(33, "automorphisms", y.autos(0, 0), 6);
        due(33, "autotopies", y.autos(0, 1), 216);
        due(33, "what", y.autos(0, 2), -1);
        due(33, "what", y.autos(0, -1), -1);
        due(33, "no table", y.autos(1, 0), -1);
        due(33, "no table", y.autos(-1, 1), -1);
        LoopTables z = withRow("3" + "021" + "210" + "102");
        due(33, "without a unit", z.autos(0, 0), 6);
        due(33, "without a unit", z.autos(0, 1), 18);
    }

    private static void crossings() {
        int[][] want = {{1, 1, 0}, {0, 0, 1}, {3, 1, 0}, {0, 0, 4}, {15, 3, 0}, {0, 0, 9}};
        for (int n = 1; n <= 6; n++) {
            LoopTables x = with(n);
            for (int what = 0; what < 3; what++) {
                due(34, "crossings of order " + n, x.crossings(0, what), want[n - 1][what]);
            }
        }
        LoopTables x = withRow(FIVE);
        due(34, "transversals", x.crossings(0, 0), 3);
        due(34, "mates", x.crossings(0, 1), 0);
        due(34, "what", x.crossings(0, 3), -1);
        due(34, "what", x.crossings(0, -1), -1);
        due(34, "no table", x.crossings(1, 0), -1);
        due(34, "no table", x.crossings(6, 2), -1);
        LoopTables y = with(2);
        y.product(0, 0, 0);
        due(34, "transversals", y.crossings(0, 0), 8);
        due(34, "mates", y.crossings(0, 1), 2);
        due(34, "two times two", y.crossings(0, 2), 12);
    }

    private static void cycles() {
        LoopTables x = with(6);
        int[] many = {0, 1, 2, 3, 2, 1};
        for (int b = 1; b < 6; b++) {
            due(35, "how many", x.cycles(0, 0, b, 0), many[b]);
            due(35, "the longest", x.cycles(0, b, 0, 1), 6 / many[b]);
        }
        LoopTables y = withRow(FIVE);
        due(35, "how many", y.cycles(0, 0, 1, 0), 2);
        due(35, "the longest", y.cycles(0, 0, 1, 1), 3);
        due(35, "the same row", y.cycles(0, 2, 2, 0), -1);
        due(35, "no row", y.cycles(0, 0, 5, 0), -1);
        due(35, "no row", y.cycles(0, -1, 1, 0), -1);
        due(35, "what", y.cycles(0, 0, 1, 2), -1);
        due(35, "what", y.cycles(0, 0, 1, -1), -1);
        due(35, "no table", y.cycles(1, 0, 1, 0), -1);
        due(35, "no table", y.cycles(6, 0, 1, 0), -1);
    }

    private static void apart() {
        LoopTables x = with(4, 4, 3);
        due(36, "the same", x.apart(0, 1), 0);
        x.turn(1, 0, 2, 0);
        due(36, "apart", x.apart(0, 1), 4);
        due(36, "itself", x.apart(1, 1), 0);
        due(36, "other orders", x.apart(0, 2), -1);
        due(36, "no table", x.apart(0, 3), -1);
        due(36, "no table", x.apart(6, 0), -1);
        due(36, "no table", x.apart(0, -1), -1);
        x.turn(1, 0, 1, 0);
        due(36, "apart", x.apart(0, 1), x.apart(1, 0));
    }

    private static void near() {
        for (int n = 1; n <= 6; n++) {
            LoopTables x = with(n);
            due(37, "a group", x.near(0, 0), 0);
            due(37, "itself", x.near(0, 1), 1);
            if (n > 1) {
                x.rename(0, n);
                due(37, "a group with another unit", x.near(0, 0), 0);
            }
        }
        LoopTables x = with(4);
        x.turn(0, 0, 2, 0);
        due(37, "four cells off", x.near(0, 0), 4);
        due(37, "tables", x.near(0, 1), 1);
        // x * y is - x - y modulo 3 is in two of three cells otherwise than each group.
        LoopTables y = withRow("3" + "021" + "210" + "102");
        due(37, "cells", y.near(0, 0), 6);
        due(37, "tables", y.near(0, 1), 3);
        due(37, "what", y.near(0, 2), -1);
        due(37, "what", y.near(0, -1), -1);
        due(37, "no table", y.near(1, 0), -1);
        due(37, "no table", y.near(6, 0), -1);
        LoopTables z = withRow("2" + "10" + "01");
        due(37, "a group with unit 1", z.near(0, 0), 0);
    }

    private static void board() {
        LoopTables x = new LoopTables();
        refused(39, x, x.clue(0, 0, 0), -1);
        refused(39, x, x.clue(0, 0, -1), -1);
        due(38, "board", x.board(3), 0);
        due(38, "order", x.count(2), 3);
        due(39, "clue", x.clue(0, 2, 1), -1);
        due(39, "status()", x.status(), 0);
        due(39, "clue", x.clue(0, 2, 2), 1);
        due(39, "clue", x.clue(2, 0, 0), -1);
        due(39, "count", x.count(3), 2);
        due(39, "clue that is none", x.clue(1, 1, -1), -1);
        due(39, "status()", x.status(), 0);
        due(39, "clue taken away", x.clue(0, 2, -1), 2);
        due(39, "count", x.count(3), 1);
        refused(39, x, x.clue(3, 0, 0), -1);
        refused(39, x, x.clue(0, 3, 0), -1);
        refused(39, x, x.clue(-1, 0, 0), -1);
        refused(39, x, x.clue(0, -1, 0), -1);
        refused(39, x, x.clue(0, 0, 3), -1);
        refused(39, x, x.clue(0, 0, -2), -1);
        refused(38, x, x.board(0), -1);
        refused(38, x, x.board(7), -1);
        due(38, "it stays", x.count(2), 3);
        due(38, "they stay", x.count(3), 1);
        due(38, "board", x.board(6), 0);
        due(38, "clues are none", x.count(3), 0);
        due(39, "clue", x.clue(5, 5, 5), -1);
        due(38, "board of the same order", x.board(6), 0);
        due(38, "clues are none", x.count(3), 0);
    }

    private static void filled() {
        int[] all = {1, 2, 12, 576, 20000, 20000};
        LoopTables x = new LoopTables();
        for (int n = 1; n <= 6; n++) {
            x.board(n);
            due(40, "filled of order " + n, x.filled(), all[n - 1]);
        }
        // With the first row told: 161280 / 120; with the first column too: 56.
        x.board(5);
        for (int y = 0; y < 5; y++) {
            x.clue(0, y, y);
        }
        due(40, "one row told", x.filled(), 1344);
        for (int y = 1; y < 5; y++) {
            x.clue(y, 0, y);
        }
        due(40, "one row and column told", x.filled(), 56);
        x.clue(1, 1, 1);
        due(40, "clues that clash", x.filled(), 0);
        // Reduced ones of order 6, and more than 20,000 with a cell less.
        x.board(6);
        for (int y = 0; y < 6; y++) {
            x.clue(0, y, y);
            x.clue(y, 0, y);
        }
        due(40, "one row and column told", x.filled(), 9408);
        x.clue(5, 0, -1);
        x.clue(4, 0, -1);
        due(40, "two cells less", x.filled(), 18816);
        x.clue(3, 0, -1);
        due(40, "three cells less", x.filled(), 20000);
        // A cell that can't have any, at the far end.
        x.board(6);
        for (int y = 0; y < 4; y++) {
            x.clue(5, y, y);
        }
        x.clue(0, 5, 4);
        x.clue(1, 5, 5);
        due(40, "a cell without a choice", x.filled(), 0);
    }

    private static void fill() {
        LoopTables x = new LoopTables();
        refused(41, x, x.fill(0), -3);
        refused(41, x, x.fill(6), -1);
        refused(41, x, x.fill(-1), -1);
        x.board(4);
        due(41, "fill", x.fill(0), 4);
        stands(41, x, 0, "0123103223013210");
        x.clue(3, 3, 3);
        x.clue(3, 0, 0);
        due(41, "fill", x.fill(1), 4);
        stands(41, x, 1, "1032" + "2301" + "3120" + "0213");
        due(41, "it has the clues", x.at(1, 0, 3, 3), 3);
        due(41, "it has the clues", x.at(1, 0, 3, 0), 0);
        x.clue(3, 1, 0);
        refused(41, x, x.fill(1), -3);
        due(41, "the clues stay", x.count(3), 3);
        x.board(1);
        due(41, "fill of order 1", x.fill(5), 1);
        x.board(6);
        x.clue(5, 5, 0);
        due(41, "fill of order 6", x.fill(5), 6);
        due(41, "at", x.at(5, 0, 5, 5), 0);
        due(41, "at", x.at(5, 0, 0, 0), 0);
    }

    private static void spare() {
        LoopTables x = new LoopTables();
        due(42, "no board", x.spare(0, 0), -1);
        x.board(3);
        due(42, "no clue", x.spare(0, 0), -1);
        x.clue(0, 0, 0);
        due(42, "one alone", x.spare(0, 0), 0);
        x.clue(1, 1, 1);
        x.clue(2, 2, 2);
        due(42, "three that tell all", x.filled(), 1);
        due(42, "each of them is spared", x.spare(2, 2), 1);
        x.clue(2, 2, -1);
        due(42, "then none", x.spare(1, 1), 0);
        due(42, "the clue stays", x.count(3), 2);
        due(42, "out of it", x.spare(3, 0), -1);
        due(42, "out of it", x.spare(0, -1), -1);
        x.clue(0, 1, 0);
        due(42, "none with it, none without", x.spare(1, 1), 1);
        due(42, "none with it, some without", x.spare(0, 1), 0);
        // More than 20,000 count as that many.
        x.board(6);
        x.clue(0, 0, 0);
        x.clue(3, 3, 3);
        due(42, "of many", x.spare(0, 0), 1);
        due(42, "no clue", x.spare(1, 1), -1);
        x.board(5);
        for (int y = 0; y < 5; y++) {
            x.clue(0, y, y);
        }
        due(42, "the last cell of a row", x.spare(0, 4), 1);
        x.clue(0, 3, -1);
        due(42, "not the last cell", x.spare(0, 4), 0);
    }

    private static void walk() {
        LoopTables x = with(6, 1, 2);
        due(43, "no steps", x.walk(0, 77, 0), 0);
        due(44, "drawn", x.drawn(5, 5), 4);
        due(44, "drawn", x.drawn(6, 0), -1);
        due(44, "drawn", x.drawn(0, -1), -1);
        due(43, "of order 2", x.walk(2, 5, 1), 4);
        due(44, "drawn", x.drawn(0, 0), 1);
        due(44, "drawn", x.drawn(2, 0), -1);
        refused(43, x, x.walk(1, 0, 1), -3);
        refused(43, x, x.walk(3, 0, 1), -2);
        refused(43, x, x.walk(6, 0, 1), -2);
        refused(43, x, x.walk(3, -1, 1), -1);
        refused(43, x, x.walk(0, 1000001, 1), -1);
        refused(43, x, x.walk(0, 0, -1), -1);
        refused(43, x, x.walk(1, 0, 201), -1);
        due(44, "the latest stays", x.drawn(0, 0), 1);
        due(43, "the table stays", x.at(0, 0, 0, 0), 0);
        due(43, "changes", x.count(10), 3);
        // One step is one turn by three draws.
        int s = 1000000;
        int[] draws = new int[3];
        for (int i = 0; i < 3; i++) {
            s = (int) ((s * 1103L + 12345L) % 1000003L);
            draws[i] = s;
        }
        int a = draws[0] % 6;
        int b = draws[1] % 5;
        b = b >= a ? b + 1 : b;
        due(43, "a step", x.walk(0, 1000000, 1), 2 * x.turn(0, a, b, draws[2] % 6));
        for (int i = 0; i < 36; i++) {
            due(44, "drawn", x.drawn(i / 6, i % 6), x.at(0, 0, i / 6, i % 6));
        }
        due(43, "200 steps", x.walk(0, 3, 200) >= 0 ? 1 : 0, 1);
        StringBuilder row = new StringBuilder("6");
        for (int i = 0; i < 36; i++) {
            row.append(x.drawn(i / 6, i % 6));
        }
        due(44, "the table behind it is latin", Tape.row(x, 3, row.toString()), 6);
    }

    private static void images() {
        LoopTables x = with(4);
        refused(46, x, x.back(0), -2);
        refused(46, x, x.back(2), -1);
        refused(46, x, x.back(-1), -1);
        refused(45, x, x.image(2), -1);
        refused(45, x, x.image(-1), -1);
        Tape.law(x, COMMUTES);
        x.board(3);
        x.clue(0, 0, 2);
        x.cyclic(1, 5);
        x.undo();
        due(45, "image", x.image(1), 0);
        refused(46, x, x.back(0), -2);
        x.cyclic(0, 2);
        x.cyclic(3, 6);
        Tape.law(x, JOINS);
        Tape.law(x, "x = ");
        x.clue(0, 0, 1);
        x.clue(1, 1, 1);
        x.walk(3, 9, 9);
        Tape.put(x, "abc");
        int refusals = x.count(6);
        int drawn = x.drawn(3, 3);
        due(46, "back", x.back(1), 0);
        due(46, "order", x.order(0), 4);
        due(46, "order", x.order(1), -1);
        due(46, "order", x.order(3), -1);
        due(46, "laws", x.count(1), 1);
        due(46, "what is undone", x.count(11), 1);
        due(46, "what can be undone", x.count(10), 1);
        due(46, "clues", x.count(3), 1);
        due(46, "order of the clues", x.count(2), 3);
        due(46, "a clue", x.clue(0, 0, 2), 2);
        due(46, "the tape is not kept", x.count(4), 3);
        due(46, "nor the fault", x.fault(), 4);
        due(46, "nor the walk", x.drawn(3, 3), drawn);
        due(46, "nor the refusals", x.count(6), refusals);
        due(46, "redo", x.redo(), 0);
        due(46, "order", x.order(1), 5);
        due(46, "undo", x.undo(), 1);
        due(46, "undo", x.undo(), 0);
        due(46, "order", x.order(0), -1);
        x.end(0);
        due(46, "another law takes the number", Tape.law(x, "x * x = e"), 1);
        due(46, "back again", x.back(1), 0);
        due(46, "the image stayed", x.order(0), 4);
        due(46, "laws", x.count(1), 1);
        x.cyclic(0, 6);
        x.image(0);
        x.cyclic(0, 1);
        x.back(1);
        due(46, "order", x.order(0), 4);
        x.back(0);
        due(46, "order", x.order(0), 6);
        due(46, "changes", x.count(10), 2);
        x.image(1);
        x.undo();
        x.back(1);
        due(45, "kept anew", x.order(0), 6);
        keptLaws();
    }

    private static void keptLaws() {
        LoopTables x = withRow("3" + "021" + "210" + "102");
        x.image(0);
        String[] held = {"x * x = x", COMMUTES, "e = e"};
        String[] broken = {"x * x = e", JOINS, "e = x"};
        for (String text : held) {
            Tape.law(x, text);
        }
        x.image(1);
        x.back(0);
        for (String text : broken) {
            Tape.law(x, text);
        }
        for (int law = 0; law < 3; law++) {
            due(46, "the law that stands now", x.holds(0, law), 0);
        }
        x.back(1);
        for (int law = 0; law < 3; law++) {
            due(46, "the law that was kept", x.holds(0, law), 1);
        }
    }

    private static void count() {
        LoopTables x = with(2, 0, 3);
        due(47, "tables", x.count(0), 2);
        x.cyclic(2, 4);
        due(47, "tables", x.count(0), 2);
        due(47, "what", x.count(12), -1);
        due(47, "what", x.count(-1), -1);
        due(47, "what", x.count(LEAST), -1);
        x.cyclic(9, 9);
        x.board(9);
        x.copy(0, 5);
        x.undo();
        x.redo();
        x.redo();
        x.redo();
        x.row(0);
        x.law();
        x.law();
        due(47, "by -1", x.count(5), 2);
        due(47, "by -2", x.count(6), 1);
        due(47, "by -3", x.count(7), 2);
        due(47, "by -5", x.count(8), 0);
        due(47, "by -6", x.count(9), 3);
        for (int i = 0; i < 9; i++) {
            Tape.law(x, "x=y");
        }
        due(47, "by -5", x.count(8), 1);
        // NONE is no refusal.
        x.order(9);
        x.at(9, 9, 9, 9);
        x.filled();
        x.end(-1);
        x.listed(9, 9, 9);
        x.count(99);
        due(47, "by -1", x.count(5), 2);
        due(47, "laws", x.count(1), 8);
    }

    private static void status() {
        LoopTables x = new LoopTables();
        due(48, "ahead of any", x.status(), 0);
        x.order(9);
        x.feed(0, 0, 0, 0, 0);
        x.end(99);
        due(48, "others do not count", x.status(), 0);
        x.undo();
        due(48, "undo", x.status(), -3);
        x.order(9);
        x.end(0);
        x.filled();
        x.spare(0, 0);
        x.listed(1, 0, 0);
        due(48, "others do not count", x.status(), -3);
        x.cyclic(0, 3);
        due(48, "cyclic", x.status(), 0);
        x.law();
        due(48, "law", x.status(), -6);
        x.image(0);
        due(48, "image", x.status(), 0);
        x.back(1);
        due(48, "back", x.status(), -2);
        x.back(0);
        due(48, "back", x.status(), 0);
        x.find(0, 3, 0, 0, 1);
        due(48, "find", x.status(), -3);
        x.board(2);
        due(48, "board", x.status(), 0);
        x.clue(2, 2, 2);
        due(48, "clue", x.status(), -1);
        x.clue(1, 1, 1);
        due(48, "clue that was none", x.status(), 0);
        x.walk(3, 0, 0);
        due(48, "walk", x.status(), -2);
        x.redo();
        due(48, "redo", x.status(), -3);
    }
}
