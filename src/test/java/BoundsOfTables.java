/** Promises 1 to 18 and what the terms say of tables: what a table is, how it is made, undone, looked at. */
final class BoundsOfTables {
    private static final String Z4 = "0123123023013012";
    private static final String Z6 = "012345123450234501345012450123501234";
    /** A loop of order 5 that is no group, whose six conjugates are all different. */
    private static final String FIVE = "bytes 5 0 1 2 3 4 1 0 3 4 2 2 3 4 0 1 3 4 1 2 0 4 2 0 1 3";
    /** A group of order 6 that does not commute: 3, 4 and 5 are flips. */
    private static final String FLIPS = "bytes 6 0 1 2 3 4 5 1 2 0 4 5 3 2 0 1 5 3 4 "
            + "3 5 4 0 2 1 4 3 5 1 0 2 5 4 3 2 1 0";
    /** y - x modulo 3: 0 is a unit of left alone. */
    private static final String MINUS = "bytes 3 0 1 2 2 0 1 1 2 0";

    private BoundsOfTables() {
    }

    static void hold(Sentences s) {
        newObject(s);
        manyCalls(s);
        feed(s);
        end(s);
        row(s);
        rowsThatCannotBe(s);
        cyclic(s);
        copy(s);
        isotope(s);
        conjugate(s);
        rename(s);
        turn(s);
        product(s);
        extend(s);
        quotient(s);
        normalParts(s);
        undo(s);
        changesThatCanBeUndone(s);
        redo(s);
        whatKeepsRedo(s);
        order(s);
        at(s);
        unit(s);
        refusals(s);
    }

    private static void newObject(Sentences s) {
        s.says(1, "No TABLES, LAWS, CLUES.",
                "count(0) -> 0", "count(1) -> 0", "count(2) -> 0", "count(3) -> 0", "count(4) -> 0",
                "count(10) -> 0", "count(11) -> 0", "holds(0, 0) -> NONE", "listed(1, 1, 0) -> NONE",
                "filled() -> NONE", "spare(0, 0) -> NONE", "fault() -> NONE", "drawn(0, 0) -> NONE",
                "undo() refused -3", "redo() refused -3", "back(0) refused -2", "back(1) refused -2");
        s.says(1, "TABLES 0 .. 5, none at first",
                "order(0) -> NONE", "order(1) -> NONE", "order(2) -> NONE", "order(3) -> NONE", "order(4) -> NONE",
                "order(5) -> NONE", "cyclic(0, 1) -> 1", "cyclic(5, 2) -> 2", "order(0) -> 1", "order(5) -> 2",
                "cyclic(-1, 1) refused -1", "cyclic(6, 1) refused -1", "order(-1) -> NONE", "order(6) -> NONE");
    }

    private static void manyCalls(Sentences s) {
        // Up to the 512th call all is as promised; nothing is promised of later ones, so none is made.
        s.says(1, "An object is used for at most 512 calls after it has been made; what later calls answer is free.",
                "245 times cyclic(0, 2)", "count(10) -> 30", "undo() -> 29", "cells(0) -> 0110");
        s.says(1, "The constants: `NONE = -1`: There is none.",
                "order(0) -> NONE", "order(0) -> -1");
    }

    private static void feed(Sentences s) {
        s.says(2, "Twenty bytes come behind the TAPE",
                "feed(0, 0, 0, 0, 0) -> 20", "feed(0, 0, 0, 0, 0) -> 40", "end(0)", "bytes 1",
                "feed(0, 0, 0, 0, 0) -> 21", "end(2)", "row(0) -> 1");
        s.says(2, "four of each number, the highest first: how many it has.",
                "feed(0x04000102, 0x03010203, 0x00020300, 0x01030001, 0x02000000) -> 20", "count(4) -> 20",
                "end(17)", "row(0) -> 4", "cells(0) -> " + Z4);
        // Numbers below 0 are four bytes as any other, and none of these is below 0.
        s.says(2, "four of each number, the highest first",
                "feed(-1, LEAST, -2, -1, LEAST) -> 20", "law() refused -6", "fault() -> 0",
                "feed(0x7820ff20, 0, 0, 0, 0)", "law() refused -6", "fault() -> 2", "feed(0x783d78a0, 0, 0, 0, 0)",
                "law() refused -6", "fault() -> 3", "feed(0x783d80ff, 0, 0, 0, 0)", "law() refused -6",
                "fault() -> 2");
        s.says(2, "NONE, if there would be more than 400.",
                "19 times feed(0, 0, 0, 0, 0)", "feed(1, 2, 3, 4, 5) -> 400", "feed(0, 0, 0, 0, 0) -> NONE",
                "count(4) -> 400", "feed(-1, -1, -1, -1, -1) -> NONE", "count(4) -> 400");
        s.says(2, "NONE, if there would be more than 400.",
                "20 times feed(0, 0, 0, 0, 0)", "end(381)", "feed(0, 0, 0, 0, 0) -> NONE", "count(4) -> 381",
                "end(380)", "feed(0, 0, 0, 0, 0) -> 400");
        // What does not fit leaves the bytes that are there.
        s.says(2, "NONE, if there would be more than 400.",
                "tape x = x" + " ".repeat(395), "feed(-1, -1, -1, -1, -1) -> NONE", "law() -> 0");
        s.says(19, "on a TAPE of at most 400 bytes.",
                "tape x = x" + " ".repeat(395), "count(4) -> 400", "law() -> 0", "tape x" + " ".repeat(398) + "=",
                "law() refused -6", "fault() -> 400", "tape x" + " ".repeat(397) + "=x", "law() -> 1");
    }

    private static void end(Sentences s) {
        s.says(3, "The TAPE has its first n bytes alone: n.",
                "tape x=xyz", "end(3) -> 3", "count(4) -> 3", "law() -> 0");
        s.says(3, "The TAPE has its first n bytes alone: n.",
                "end(0) -> 0", "tape abc", "end(3) -> 3", "count(4) -> 3", "end(0) -> 0", "count(4) -> 0",
                "end(0) -> 0", "20 times feed(0, 0, 0, 0, 0)", "end(400) -> 400", "end(399) -> 399");
        s.says(3, "NONE, if it has not so many,",
                "end(1) -> NONE", "tape abc", "end(4) -> NONE", "end(401) -> NONE", "end(MOST) -> NONE",
                "count(4) -> 3", "end(1) -> 1", "end(2) -> NONE", "count(4) -> 1");
        s.says(3, "or n is below 0.",
                "end(-1) -> NONE", "tape abc", "end(-1) -> NONE", "end(LEAST) -> NONE", "count(4) -> 3");
    }

    private static void row(Sentences s) {
        s.says(4, "A TABLE (0 .. 5) becomes the ROW,",
                "bytes 3 2 1 0 1 0 2 0 2 1", "row(0) -> 3", "bytes 2 1 0 0 1", "row(5) -> 2",
                "cells(0) -> 210102021", "cells(5) -> 1001", "count(0) -> 2", "bytes 1 0", "row(5) -> 1",
                "cells(5) -> 0", "count(0) -> 2");
        s.says(4, "-1;",
                "cyclic(5, 2)", "bytes 2 1 0 0 1", "row(-1) refused -1", "row(6) refused -1",
                "row(LEAST) refused -1", "row(MOST) refused -1");
        s.says(4, "the TAPE is empty then",
                "bytes 1 0", "row(0) -> 1", "count(4) -> 0", "row(1) refused -6", "bytes 3 0 1", "row(1) refused -6",
                "count(4) -> 0", "bytes 2 0 1 1 0", "row(1) -> 2");
        s.says(4, "(not if -1)",
                "bytes 2 0 1 1 0", "row(6) refused -1", "count(4) -> 5", "row(-1) refused -1", "count(4) -> 5",
                "row(0) -> 2");
        s.says(4, ": its ORDER.",
                "bytes 1 0", "row(0) -> 1", "bytes 2 0 1 1 0", "row(0) -> 2", "bytes 3 0 1 2 1 2 0 2 0 1",
                "row(0) -> 3", "bytes 4 0 1 2 3 1 2 3 0 2 3 0 1 3 0 1 2", "row(0) -> 4", FIVE, "row(0) -> 5", FLIPS,
                "row(0) -> 6");
        s.says(4, "-6.",
                "row(0) refused -6", "bytes 9", "row(0) refused -6", "bytes 9", "row(5) refused -6");
        // Of both the first counts, and the tape stays.
        s.says(4, "The first of these in that order.",
                "bytes 9", "row(6) refused -1", "count(4) -> 1", "row(0) refused -6", "row(6) refused -1");
    }

    private static void rowsThatCannotBe(Sentences s) {
        String ahead = "cyclic(0, 3)";
        s.says(4, "A ROW: the TAPE's bytes: n, then n times n ELEMENTS,",
                ahead, "row(0) refused -6", "bytes 1", "row(0) refused -6", "bytes 2", "row(0) refused -6",
                "bytes 2 0 1 1", "row(0) refused -6", "bytes 3 0 1 2 1 2 0 2 0", "row(0) refused -6");
        s.says(4, "row by row,",
                "bytes 3 0 1 2 2 0 1 1 2 0", "row(0) -> 3", "at(0, 0, 0, 1) -> 1", "at(0, 0, 1, 0) -> 2");
        s.says(4, "and no more.",
                ahead, "bytes 1 0 0", "row(0) refused -6", "bytes 2 0 1 1 0 0", "row(0) refused -6",
                "20 times feed(0x02000101, 0, 0, 0, 0)", "row(0) refused -6");
        StringBuilder seven = new StringBuilder("bytes 7");
        for (int i = 0; i < 49; i++) {
            seven.append(' ').append((i / 7 + i % 7) % 7);
        }
        s.says(4, "of ORDER n 1 .. 6,",
                ahead, "bytes 0", "row(0) refused -6", "bytes 0 0", "row(0) refused -6", seven.toString(),
                "row(0) refused -6", "bytes 255", "row(0) refused -6", "bytes 255 0", "row(0) refused -6");
        s.says(4, "ELEMENTS 0 .. n - 1;",
                ahead, "bytes 1 1", "row(0) refused -6", "bytes 2 0 2 2 0", "row(0) refused -6", "bytes 2 1 2 2 1",
                "row(0) refused -6", "bytes 2 0 255 255 0", "row(0) refused -6",
                // 33 is 1 where a number is shifted by 32 and one more.
                "bytes 2 0 33 33 0", "row(0) refused -6", "bytes 2 0 1 33 0", "row(0) refused -6");
        s.says(4, "each is once in each row and column.",
                ahead, "bytes 2 0 1 0 1", "row(0) refused -6", "bytes 2 0 0 1 1", "row(0) refused -6",
                "bytes 3 0 1 2 1 2 0 2 1 0", "row(0) refused -6", "bytes 3 0 1 2 1 2 0 2 0 0", "row(0) refused -6",
                "bytes 2 0 0 0 0", "row(0) refused -6");
        s.says(4, "-6 a TEXT, a ROW that can't be.",
                ahead, "bytes 2 0 1 1 1", "row(0) refused -6", "bytes 2 0 1 1 0", "law() refused -6");
    }

    private static void cyclic(Sentences s) {
        s.says(5, "A TABLE (0 .. 5) becomes x + y modulo n",
                "cyclic(0, 6) -> 6", "cyclic(1, 5) -> 5", "cyclic(2, 4) -> 4", "cyclic(3, 3) -> 3",
                "cyclic(4, 2) -> 2", "cyclic(5, 1) -> 1", "cells(0) -> " + Z6,
                "cells(1) -> 0123412340234013401240123", "cells(2) -> " + Z4, "cells(3) -> 012120201",
                "cells(4) -> 0110", "cells(5) -> 0");
        s.says(5, "(1 .. 6): n.",
                "cyclic(0, 1) -> 1", "cyclic(0, 6) -> 6", "cyclic(0, 0) refused -1", "cyclic(0, 7) refused -1",
                "cyclic(0, -1) refused -1", "cyclic(0, LEAST) refused -1", "cyclic(0, MOST) refused -1");
        s.says(5, "-1.",
                "cyclic(0, 2)", "cyclic(-1, 3) refused -1", "cyclic(6, 3) refused -1", "cyclic(LEAST, 3) refused -1",
                "cyclic(MOST, 3) refused -1", "cyclic(6, 7) refused -1");
    }

    private static void copy(Sentences s) {
        s.says(6, "A TABLE (0 .. 5) becomes another one: its ORDER.",
                "cyclic(5, 4)", "copy(0, 5) -> 4", "cells(0) -> " + Z4, "cyclic(0, 1)", "copy(5, 0) -> 1",
                "order(5) -> 1", "copy(5, 5) -> 1", "count(10) -> 5");
        s.says(6, "A TABLE (0 .. 5) becomes another one",
                "cyclic(0, 2)", "copy(1, 0)", "turn(0, 0, 1, 0)", "cells(1) -> 0110", "cells(0) -> 1001",
                "rename(1, 1)", "cells(0) -> 1001");
        s.says(6, "-1;",
                "cyclic(0, 2)", "copy(-1, 0) refused -1", "copy(6, 0) refused -1", "copy(MOST, 0) refused -1",
                "copy(LEAST, 0) refused -1");
        s.says(6, "-2 that.",
                "cyclic(0, 2)", "copy(0, 1) refused -2", "copy(0, 5) refused -2", "copy(1, 1) refused -2",
                "copy(0, 6) refused -2", "copy(0, -1) refused -2", "copy(0, MOST) refused -2",
                "copy(0, LEAST) refused -2");
        s.says(6, "The first of these in that order.",
                "copy(6, 0) refused -1", "copy(-1, 6) refused -1");
    }

    private static void isotope(Sentences s) {
        s.says(7, "ISOTOPE of a TABLE by a, b: x o y is (x / b) * (a \\ y).",
                FIVE, "row(0)", "copy(1, 0)", "isotope(0, 3, 4) -> 0", "cells(0) -> 0123414023234103014242301",
                "isotope(1, 4, 3) -> 1", "cells(1) -> 4031201234124032314034021");
        s.says(7, "A TABLE becomes its ISOTOPE by two ELEMENTS: its UNIT.",
                "cyclic(5, 1)", "isotope(5, 0, 0) -> 0", "cells(5) -> 0", "cyclic(0, 6)", "isotope(0, 5, 5) -> 4",
                "unit(0, 0) -> 4", "isotope(0, 0, 0) -> 2", "unit(0, 0) -> 2", MINUS, "row(1)", "unit(1, 0) -> NONE",
                "isotope(1, 0, 2) -> 2", "unit(1, 0) -> 2");
        s.says(7, "-2; -1. The first of these.",
                "cyclic(0, 3)", "isotope(1, 0, 0) refused -2", "isotope(-1, 0, 0) refused -2",
                "isotope(6, 0, 0) refused -2", "isotope(1, 3, 0) refused -2", "isotope(6, -1, 9) refused -2",
                "isotope(LEAST, 0, 0) refused -2", "isotope(MOST, 0, 0) refused -2");
        s.says(7, "-1. The first of these.",
                "cyclic(0, 3)", "isotope(0, 3, 0) refused -1", "isotope(0, 0, 3) refused -1",
                "isotope(0, -1, 0) refused -1", "isotope(0, 0, -1) refused -1", "isotope(0, MOST, 0) refused -1",
                "isotope(0, 0, LEAST) refused -1", "isotope(0, 2, 2) -> 1");
    }

    private static void conjugate(Sentences s) {
        s.says(8, "CONJUGATES of a TABLE with x * y = z: 0 itself, 1 y o x = z, 2 x o z = y,",
                FIVE, "row(0)", "copy(1, 0)", "copy(2, 0)", "conjugate(0, 0) -> 0",
                "cells(0) -> 0123410342234013412042013", "conjugate(1, 1) -> 0",
                "cells(1) -> 0123410342234103402142103", "conjugate(2, 2) -> 0",
                "cells(2) -> 0123410423340124230123140");
        s.says(8, "3 z o x = y, 4 y o z = x, 5 z o y = x.",
                FIVE, "row(0)", "copy(1, 0)", "copy(2, 0)", "conjugate(0, 3) -> 0",
                "cells(0) -> 0134210423240313210443210", "conjugate(1, 4) -> 0",
                "cells(1) -> 0123410423430122430132140", "conjugate(2, 5) -> 0",
                "cells(2) -> 0142310342240313210443210");
        s.says(8, "A TABLE becomes a CONJUGATE (0 .. 5): 0.",
                "cyclic(0, 3)", "conjugate(0, 0) -> 0", "conjugate(0, 5) -> 0", "count(10) -> 3",
                "conjugate(0, -1) refused -1", "conjugate(0, 6) refused -1", "conjugate(0, LEAST) refused -1",
                "conjugate(0, MOST) refused -1");
        s.says(8, "-2; -1. The first of these.",
                "cyclic(0, 3)", "conjugate(1, 0) refused -2", "conjugate(6, 0) refused -2",
                "conjugate(-1, 0) refused -2", "conjugate(1, 6) refused -2", "conjugate(MOST, -1) refused -2");
    }

    private static void rename(Sentences s) {
        s.says(9, "PERMUTATIONS of n ELEMENTS are numbered 0 .. n! - 1",
                "cyclic(0, 1)", "rename(0, 0) -> 0", "rename(0, 1) refused -1", "cyclic(0, 2)", "rename(0, 1) -> 0",
                "cells(0) -> 1001", "rename(0, 2) refused -1", "cyclic(0, 3)", "rename(0, 5) -> 0",
                "unit(0, 0) -> 2", "rename(0, 6) refused -1", "cyclic(0, 4)", "rename(0, 23) -> 0",
                "unit(0, 0) -> 3", "rename(0, 24) refused -1");
        s.says(9, "PERMUTATIONS of n ELEMENTS are numbered 0 .. n! - 1",
                "cyclic(0, 5)", "rename(0, 119) -> 0", "unit(0, 0) -> 4", "rename(0, 120) refused -1",
                "cyclic(1, 6)", "rename(1, 719) -> 0", "unit(1, 0) -> 5", "rename(1, 720) refused -1");
        // 33 of five is 1, 2, 3, 4, 0.
        s.says(9, "by their rows (images of 0, 1, ..; lower ones ahead).",
                "cyclic(0, 3)", "rename(0, 3)", "cells(0) -> 201012120", "rename(0, 0)", "cells(0) -> 201012120",
                "rename(0, 4)", "cells(0) -> 012120201", FIVE, "row(1)", "rename(1, 33)",
                "cells(1) -> 4031201234321402340114023");
        // A table of another order that was made since does not matter.
        s.says(9, "The ELEMENTS of a TABLE become others by a PERMUTATION: 0.",
                "cyclic(5, 2)", "cyclic(0, 5)", "rename(5, 1) -> 0", "cells(5) -> 1001", "cyclic(0, 1)",
                "rename(5, 1) -> 0", "cells(5) -> 0110");
        s.says(9, "The ELEMENTS of a TABLE become others by a PERMUTATION: 0.",
                "cyclic(5, 2)", "rename(5, 1) -> 0", "cells(5) -> 1001", "rename(5, 0) -> 0", "cells(5) -> 1001",
                "count(10) -> 3", "rename(5, -1) refused -1", "rename(5, LEAST) refused -1",
                "rename(5, MOST) refused -1");
        s.says(9, "-2; -1. The first of these.",
                "cyclic(0, 2)", "rename(1, 0) refused -2", "rename(-1, 0) refused -2", "rename(6, 0) refused -2",
                "rename(1, -1) refused -2", "rename(6, 720) refused -2");
    }

    private static void turn(Sentences s) {
        s.says(10, "The CYCLE of rows a, b from a column c: columns from c on, each next one where row a has what "
                + "row b has in this one, till it is c again;",
                FIVE, "row(0)", "copy(1, 0)", "turn(0, 0, 1, 1) -> 2", "cells(0) -> 1023401342234013412042013",
                "turn(1, 0, 1, 4) -> 3", "cells(1) -> 0134210234234013412042013");
        s.says(10, "SWITCHED: rows a, b change places in these columns.",
                "cyclic(0, 4)", "turn(0, 2, 0, 3) -> 2", "cells(0) -> 0321123021033012", "turn(0, 0, 2, 1) -> 2",
                "cells(0) -> " + Z4);
        s.says(10, "The CYCLE of two rows from a column is SWITCHED: how many columns it has.",
                "cyclic(0, 2)", "turn(0, 0, 1, 1) -> 2", "cells(0) -> 1001", "cyclic(1, 6)", "turn(1, 5, 0, 5) -> 6",
                "at(1, 0, 5, 0) -> 0", "at(1, 0, 0, 0) -> 5", "turn(1, 1, 3, 0) -> 3", "count(10) -> 5");
        s.says(10, "-2; -1",
                "cyclic(0, 3)", "turn(1, 0, 1, 0) refused -2", "turn(6, 0, 1, 0) refused -2",
                "turn(-1, 0, 1, 0) refused -2", "turn(1, 1, 1, 0) refused -2", "turn(1, 9, 1, 0) refused -2",
                "turn(MOST, 0, 1, 9) refused -2");
        s.says(10, "-1 (the same row, too).",
                "cyclic(0, 3)", "turn(0, 1, 1, 0) refused -1", "turn(0, 2, 2, 0) refused -1", "cyclic(1, 1)",
                "turn(1, 0, 0, 0) refused -1");
        s.says(10, "The first of these.",
                "cyclic(0, 3)", "turn(0, 3, 0, 0) refused -1", "turn(0, 0, 3, 0) refused -1",
                "turn(0, 0, 1, 3) refused -1", "turn(0, -1, 0, 0) refused -1", "turn(0, 0, -1, 0) refused -1",
                "turn(0, 0, 1, -1) refused -1", "turn(0, LEAST, MOST, 0) refused -1",
                "turn(0, 0, 1, MOST) refused -1");
    }

    private static void product(Sentences s) {
        s.says(11, "PRODUCT of one of ORDER n and one of m, nm up to 6: ELEMENT m i + k for i, k.",
                "cyclic(0, 2)", "cyclic(1, 3)", "product(2, 0, 1) -> 6",
                "cells(2) -> 012345120453201534345012453120534201", "product(2, 1, 0) -> 6",
                "cells(2) -> 012345103254234501325410450123541032");
        s.says(11, "A TABLE (0 .. 5) becomes the PRODUCT of two: its ORDER.",
                "cyclic(0, 1)", "cyclic(1, 6)", "product(5, 0, 1) -> 6", "cells(5) -> " + Z6,
                "product(5, 1, 0) -> 6", "cells(5) -> " + Z6, "product(5, 0, 0) -> 1", "cyclic(2, 2)",
                "product(2, 2, 2) -> 4", "cells(2) -> 0123103223013210");
        s.says(11, "-1;",
                "cyclic(0, 2)", "product(-1, 0, 0) refused -1", "product(6, 0, 0) refused -1",
                "product(LEAST, 0, 0) refused -1", "product(6, 1, 1) refused -1");
        s.says(11, "-2;",
                "cyclic(0, 2)", "product(0, 1, 0) refused -2", "product(0, 0, 1) refused -2",
                "product(0, 6, 0) refused -2", "product(0, 0, 6) refused -2", "product(0, -1, 0) refused -2",
                "product(0, 0, LEAST) refused -2");
        s.says(11, "-3 more than 6.",
                "cyclic(0, 2)", "cyclic(1, 3)", "cyclic(2, 4)", "product(3, 0, 2) refused -3",
                "product(3, 2, 0) refused -3", "product(3, 1, 1) refused -3", "product(3, 2, 2) refused -3",
                "product(3, 2, 5) refused -2", "product(6, 2, 2) refused -1");
        s.says(11, "-3 more than 6.",
                "cyclic(0, 6)", "cyclic(1, 2)", "product(5, 0, 1) refused -3", "product(5, 1, 0) refused -3",
                "product(5, 0, 0) refused -3");
    }

    private static void extend(Sentences s) {
        s.says(12, "EXTENDED by bits: one of ORDER n up to 3: ELEMENT 2 x + i; (2 x + i) * (2 y + k) is 2 (x * y) "
                + "and i + k + bit n x + y, that modulo 2.",
                "cyclic(0, 2)", "extend(1, 0, 0) -> 4", "cells(1) -> 0123103223013210", "extend(1, 0, 2) -> 4",
                "cells(1) -> 0132102323013210", "cyclic(0, 3)", "extend(1, 0, 2) -> 6",
                "cells(1) -> 013245102354234501325410450123541032", "extend(1, 0, 511) -> 6",
                "cells(1) -> 103254012345325410234501541032450123");
        s.says(12, "A TABLE (0 .. 5) becomes one EXTENDED by bits (0 .. 511;",
                "cyclic(0, 3)", "extend(5, 0, 0) -> 6", "cells(5) -> 012345103254234501325410450123541032",
                "extend(5, 0, 511) -> 6", "cells(5) -> 103254012345325410234501541032450123",
                "extend(5, 0, 256) -> 6", "cells(5) -> 012345103254234501325410450132541023", "extend(0, 0, 0) -> 6");
        s.says(12, "those from n times n on do not count): its ORDER.",
                "cyclic(0, 1)", "extend(1, 0, 510) -> 2", "cells(1) -> 0110", "extend(1, 0, 511) -> 2",
                "cells(1) -> 1001", "cyclic(0, 2)", "extend(1, 0, 496) -> 4", "cells(1) -> 0123103223013210",
                "extend(1, 0, 498) -> 4", "cells(1) -> 0132102323013210", "extend(1, 0, 8) -> 4",
                "cells(1) -> 0123103223103201");
        s.says(12, "-1;",
                "cyclic(0, 2)", "extend(1, 0, -1) refused -1", "extend(1, 0, 512) refused -1",
                "extend(1, 0, LEAST) refused -1", "extend(1, 0, MOST) refused -1", "extend(-1, 0, 0) refused -1",
                "extend(6, 0, 0) refused -1", "extend(6, 5, 0) refused -1", "extend(1, 5, 512) refused -1");
        s.says(12, "-2;",
                "cyclic(0, 2)", "extend(0, 1, 0) refused -2", "extend(0, 6, 0) refused -2",
                "extend(0, -1, 0) refused -2", "extend(0, MOST, 0) refused -2");
        s.says(12, "-3 ORDER above 3.",
                "cyclic(0, 4)", "cyclic(1, 6)", "cyclic(2, 3)", "extend(3, 0, 0) refused -3",
                "extend(3, 1, 0) refused -3", "extend(3, 0, 512) refused -1", "extend(3, 2, 0) -> 6");
    }

    private static void quotient(Sentences s) {
        s.says(13, "The QUOTIENT: CLASSES in the order of their lowest ELEMENTS.",
                "cyclic(0, 6)", "quotient(1, 0, 9) -> 3", "cells(1) -> 012120201", "quotient(1, 0, 21) -> 2",
                // With unit 3 the class of 0 has no unit in it.
                "cells(1) -> 0110", "cyclic(0, 4)", "rename(0, 23)", "quotient(1, 0, 10) -> 2", "cells(1) -> 1001");
        s.says(13, "A TABLE (0 .. 5) becomes the QUOTIENT of a LOOP by a PART: its ORDER.",
                "cyclic(0, 6)", "quotient(5, 0, 1) -> 6", "cells(5) -> " + Z6, "quotient(0, 0, 63) -> 1",
                "cells(0) -> 0", "quotient(5, 0, 1) -> 1");
        // By the unit alone it is the table itself, whatever was made ahead of it.
        s.says(13, "A TABLE (0 .. 5) becomes the QUOTIENT of a LOOP by a PART: its ORDER.",
                "cyclic(0, 4)", "rename(0, 23)", "cyclic(1, 4)", "quotient(1, 0, 8) -> 4", "apart(0, 1) -> 0",
                "cyclic(1, 6)", "quotient(1, 0, 8) -> 4", "cells(1) -> 1230230130120123");
        s.says(13, "-1 (PART 0 .. 63, too);",
                "cyclic(0, 2)", "quotient(1, 0, -1) refused -1", "quotient(1, 0, 64) refused -1",
                "quotient(1, 0, LEAST) refused -1", "quotient(1, 0, MOST) refused -1",
                "quotient(1, 0, 0) refused -3", "quotient(1, 0, 63) refused -3");
        s.says(13, "-1 (PART 0 .. 63, too);",
                "cyclic(0, 2)", "quotient(-1, 0, 1) refused -1", "quotient(6, 0, 1) refused -1",
                "quotient(6, 1, 0) refused -1", "quotient(1, 1, 64) refused -1");
        s.says(13, "-2;",
                "cyclic(0, 2)", "quotient(0, 1, 1) refused -2", "quotient(0, 6, 1) refused -2",
                "quotient(0, -1, 1) refused -2", "quotient(0, 1, 0) refused -2", "quotient(0, MOST, 1) refused -2");
        s.says(13, "-3 no LOOP,",
                MINUS, "row(0)", "quotient(1, 0, 7) refused -3", "conjugate(0, 1)", "quotient(1, 0, 7) refused -3",
                "bytes 3 0 2 1 2 1 0 1 0 2", "row(0)", "quotient(1, 0, 7) refused -3", "quotient(1, 0, 1) refused -3");
        s.says(13, "not NORMAL.",
                "cyclic(0, 4)", "quotient(1, 0, 3) refused -3", "quotient(1, 0, 4) refused -3",
                "quotient(1, 0, 7) refused -3", "quotient(1, 0, 5) -> 2", "quotient(1, 0, 21) refused -3",
                "quotient(1, 0, 31) refused -3");
        s.says(13, "A LOOP is a TABLE with a UNIT.",
                "cyclic(0, 2)", "turn(0, 0, 1, 0)", "unit(0, 0) -> 1", "quotient(1, 0, 3) -> 1", "cyclic(0, 3)",
                "turn(0, 0, 1, 0)", "unit(0, 1) -> 1", "unit(0, 0) -> NONE", "quotient(1, 0, 7) refused -3");
    }

    private static void normalParts(Sentences s) {
        // 1, 3 has the same classes as 0, 2, but it is not closed.
        s.says(13, "A PART of a LOOP is NORMAL, if it is CLOSED,",
                "cyclic(0, 4)", "quotient(1, 0, 10) refused -3", "quotient(1, 0, 2) refused -3",
                "quotient(1, 0, 0) refused -3", "quotient(1, 0, 5) -> 2");
        // 0, 1 is closed; in five elements pairs can't be asunder.
        s.says(13, "its rows x * PART fall asunder into CLASSES that are the same or have nothing in common,",
                FIVE, "row(0)", "closed(0, 3) -> 3", "quotient(1, 0, 3) refused -3", "quotient(1, 0, 31) -> 1",
                "parts(0, 1) -> 2");
        // The unit and a flip: three rows asunder, but their products are not.
        s.says(13, "and the CLASS of x * y depends on the CLASSES of x and y alone.",
                FLIPS, "row(0)", "closed(0, 9) -> 9", "quotient(1, 0, 9) refused -3",
                "quotient(1, 0, 17) refused -3", "quotient(1, 0, 7) -> 2", "parts(0, 1) -> 3");
    }

    private static void undo(Sentences s) {
        s.says(14, "The latest change is UNDONE: how many can be still.",
                "cyclic(0, 2)", "cyclic(5, 3)", "cyclic(0, 4)", "undo() -> 2", "order(0) -> 2", "order(5) -> 3",
                "undo() -> 1", "order(5) -> NONE", "count(0) -> 1", "undo() -> 0", "order(0) -> NONE",
                "count(0) -> 0");
        s.says(14, "-3 none can.",
                "undo() refused -3", "cyclic(0, 2)", "undo() -> 0", "undo() refused -3", "undo() refused -3",
                "redo() -> 0", "order(0) -> 2");
        s.says(14, "Each change of a TABLE (also into what it was) can be UNDONE, the latest first,",
                "cyclic(0, 2)", "cyclic(0, 2)", "copy(0, 0)", "rename(0, 0)", "conjugate(0, 0)", "conjugate(0, 1)",
                "isotope(0, 0, 0)", "count(10) -> 7", "undo() -> 6", "undo() -> 5", "undo() -> 4", "undo() -> 3",
                "undo() -> 2", "undo() -> 1", "order(0) -> 2", "undo() -> 0", "order(0) -> NONE");
        s.says(14, "30 at most (older ones are let go);",
                "cyclic(0, 1)", "29 times cyclic(1, 2)", "count(10) -> 30", "undo() -> 29", "redo() -> 0",
                "cyclic(2, 3)", "count(10) -> 30", "undo() -> 29", "order(2) -> NONE", "28 times undo()",
                "undo() -> 0", "undo() refused -3", "order(0) -> 1", "order(1) -> NONE", "count(11) -> 30");
        s.says(14, "30 at most (older ones are let go);",
                "cyclic(0, 1)", "cyclic(0, 2)", "cyclic(0, 3)", "29 times rename(0, 0)", "count(10) -> 30",
                "29 times undo()", "cells(0) -> 012120201", "undo() -> 0", "cells(0) -> 0110", "undo() refused -3");
        // With all 30 undone there is room for as many again.
        s.says(14, "30 at most (older ones are let go);",
                "30 times cyclic(0, 2)", "30 times undo()", "count(11) -> 30", "30 times redo()", "count(10) -> 30",
                "count(11) -> 0", "30 times undo()", "cyclic(1, 1)", "count(10) -> 1", "count(11) -> 0",
                "order(0) -> NONE");
        s.says(14, "30 at most (older ones are let go);",
                "31 times cyclic(0, 2)", "undo() -> 29", "cyclic(1, 3)", "count(10) -> 30", "cyclic(1, 4)",
                "count(10) -> 30", "undo() -> 29", "order(1) -> 3", "undo() -> 28", "order(1) -> NONE",
                "28 times undo()", "undo() refused -3", "order(0) -> 2");
    }

    private static void changesThatCanBeUndone(Sentences s) {
        s.says(14, "Each change of a TABLE",
                "bytes 2 0 1 1 0", "row(0)", "undo() -> 0", "order(0) -> NONE", "redo()", "cyclic(0, 4)",
                "undo() -> 1", "order(0) -> 2", "copy(1, 0)", "undo() -> 1", "order(1) -> NONE", "cyclic(0, 4)",
                "isotope(0, 1, 1)", "undo() -> 2", "cells(0) -> " + Z4, "conjugate(0, 2)", "undo() -> 2",
                "cells(0) -> " + Z4, "rename(0, 7)", "undo() -> 2", "cells(0) -> " + Z4, "turn(0, 0, 1, 0)",
                "undo() -> 2", "cells(0) -> " + Z4);
        s.says(14, "Each change of a TABLE",
                "cyclic(0, 2)", "product(0, 0, 0)", "undo() -> 1", "cells(0) -> 0110", "extend(0, 0, 3)",
                "undo() -> 1", "cells(0) -> 0110", "quotient(0, 0, 3)", "undo() -> 1", "cells(0) -> 0110",
                "find(0, 3, 0, 0, 0)", "undo() -> 1", "cells(0) -> 0110", "board(3)", "fill(0)", "undo() -> 1",
                "cells(0) -> 0110", "redo() -> 0", "order(0) -> 3");
        s.says(14, "Each change of a TABLE",
                "cyclic(0, 2)", "board(2)", "clue(0, 0, 1)", "tape x=x", "law()", "walk(0, 1, 3)", "image(0)",
                "back(0)", "count(10) -> 1", "undo() -> 0", "count(1) -> 1", "count(2) -> 2", "count(3) -> 1");
    }

    private static void redo(Sentences s) {
        s.says(15, "What was UNDONE last is REDONE: how many can be still.",
                "cyclic(0, 2)", "cyclic(0, 3)", "cyclic(0, 4)", "3 times undo()", "redo() -> 2", "order(0) -> 2",
                "redo() -> 1", "order(0) -> 3", "redo() -> 0", "order(0) -> 4", "count(10) -> 3");
        s.says(15, "-3 none can.",
                "redo() refused -3", "cyclic(0, 2)", "redo() refused -3", "undo()", "redo() -> 0",
                "redo() refused -3", "undo() -> 0");
        s.says(15, "what was UNDONE can be REDONE, till a TABLE is changed otherwise.",
                "cyclic(0, 2)", "cyclic(0, 3)", "undo()", "undo()", "cyclic(5, 1)", "count(11) -> 0",
                "redo() refused -3", "undo() -> 0", "redo() -> 0", "order(0) -> NONE", "order(5) -> 1");
        // Also where the change is into what it was, or what redo() would have made.
        s.says(15, "till a TABLE is changed otherwise.",
                "cyclic(0, 2)", "cyclic(0, 3)", "undo()", "cyclic(0, 2)", "redo() refused -3", "undo()",
                "cyclic(0, 3)", "redo() refused -3", "count(10) -> 2");
        s.says(15, "30 at most",
                "30 times cyclic(0, 2)", "cyclic(1, 3)", "30 times undo()", "29 times redo()", "count(11) -> 1",
                "order(1) -> NONE", "redo() -> 0", "order(1) -> 3", "redo() refused -3", "count(10) -> 30");
    }

    private static void whatKeepsRedo(Sentences s) {
        s.says(15, "till a TABLE is changed otherwise.",
                "cyclic(0, 3)", "cyclic(0, 4)", "undo()", "cyclic(0, 7) refused -1", "copy(0, 5) refused -2",
                "product(0, 0, 0) refused -3", "row(0) refused -6", "find(0, 3, 0, 0, 1) refused -3",
                "fill(0) refused -3", "count(11) -> 1", "redo() -> 0");
        s.says(15, "till a TABLE is changed otherwise.",
                "cyclic(0, 3)", "cyclic(0, 4)", "undo()", "board(3)", "clue(0, 0, 0)", "filled() -> 4",
                "spare(0, 0) -> 0", "walk(0, 5, 5)", "tape x=x", "law()", "image(0)", "listed(3, 1, 0) -> 1",
                "name(0, 2, 0) -> 0", "near(0, 0) -> 0", "count(11) -> 1", "redo() -> 0", "order(0) -> 4");
    }

    private static void order(Sentences s) {
        s.says(16, "ORDER of a TABLE.",
                "cyclic(0, 1)", "cyclic(5, 6)", "order(0) -> 1", "order(5) -> 6");
        s.says(16, "NONE.",
                "cyclic(0, 1)", "order(1) -> NONE", "order(5) -> NONE", "order(6) -> NONE", "order(-1) -> NONE",
                "order(MOST) -> NONE", "order(LEAST) -> NONE", "undo()", "order(0) -> NONE");
    }

    private static void at(Sentences s) {
        s.says(17, "x * y is the ELEMENT in row x, column y;",
                MINUS, "row(0)", "at(0, 0, 0, 1) -> 1", "at(0, 0, 1, 0) -> 2", "at(0, 0, 2, 2) -> 0", "cyclic(0, 1)",
                "at(0, 0, 0, 0) -> 0", "at(0, 1, 0, 0) -> 0", "at(0, 2, 0, 0) -> 0");
        // y - x modulo 3: x \ y is x + y, x / y is y - x.
        s.says(17, "x \\ y is the z with x * z = y; x / y the z with z * y = x.",
                MINUS, "row(0)", "at(0, 1, 0, 1) -> 1", "at(0, 1, 2, 2) -> 1", "at(0, 1, 1, 2) -> 0",
                "at(0, 2, 0, 1) -> 1", "at(0, 2, 1, 0) -> 2", "at(0, 2, 2, 1) -> 2", "at(0, 2, 2, 2) -> 0");
        s.says(17, "x * y (what 0), x \\ y (1), x / y (2).",
                "cyclic(0, 5)", "at(0, 0, 4, 3) -> 2", "at(0, 1, 4, 3) -> 4", "at(0, 2, 4, 3) -> 1",
                "at(0, -1, 4, 3) -> NONE", "at(0, 3, 4, 3) -> NONE", "at(0, LEAST, 0, 0) -> NONE",
                "at(0, MOST, 0, 0) -> NONE");
        s.says(17, "NONE.",
                "cyclic(0, 3)", "at(0, 0, 2, 2) -> 1", "at(0, 0, 3, 0) -> NONE", "at(0, 0, 0, 3) -> NONE",
                "at(0, 0, -1, 1) -> NONE", "at(0, 0, 1, -1) -> NONE", "at(0, 1, 3, 0) -> NONE",
                "at(0, 1, 0, 3) -> NONE", "at(0, 2, 3, 0) -> NONE", "at(0, 2, 0, 3) -> NONE",
                "at(0, 0, MOST, 0) -> NONE", "at(0, 0, 0, LEAST) -> NONE");
        s.says(17, "NONE.",
                "cyclic(0, 3)", "at(1, 0, 0, 0) -> NONE", "at(6, 0, 0, 0) -> NONE", "at(-1, 0, 0, 0) -> NONE",
                "at(MOST, 0, 0, 0) -> NONE");
    }

    private static void unit(Sentences s) {
        s.says(18, "A UNIT e: e * x and x * e are x for all x (of left: e * x, of right: x * e).",
                "bytes 3 1 2 0 0 1 2 2 0 1", "row(0)", "unit(0, 0) -> NONE", "unit(0, 1) -> 1", "unit(0, 2) -> NONE",
                "conjugate(0, 1)", "unit(0, 0) -> NONE", "unit(0, 1) -> NONE", "unit(0, 2) -> 1");
        s.says(18, "UNIT (what 0), of left (1), of right (2).",
                "cyclic(0, 6)", "rename(0, 719)", "unit(0, 0) -> 5", "unit(0, 1) -> 5", "unit(0, 2) -> 5",
                "cyclic(1, 1)", "unit(1, 0) -> 0", "unit(1, 1) -> 0", "unit(1, 2) -> 0", "unit(0, -1) -> NONE",
                "unit(0, 3) -> NONE", "unit(0, MOST) -> NONE");
        s.says(18, "NONE (there is none, too).",
                "bytes 3 0 2 1 2 1 0 1 0 2", "row(0)", "unit(0, 0) -> NONE", "unit(0, 1) -> NONE",
                "unit(0, 2) -> NONE", "unit(1, 0) -> NONE", "unit(6, 0) -> NONE", "unit(-1, 0) -> NONE",
                "unit(LEAST, 1) -> NONE");
    }

    private static void refusals(Sentences s) {
        s.says(5, "REFUSED by: -1 a number that can't be;",
                "cyclic(0, 7) refused -1", "cyclic(7, 1) refused -1", "board(0) refused -1", "image(2) refused -1");
        s.says(6, "-2 there is no such TABLE, LAW, IMAGE;",
                "copy(0, 1) refused -2", "back(0) refused -2", "walk(0, 0, 0) refused -2", "holds(0, 0) -> NONE");
        s.says(14, "-3 it can't be by what stands;",
                "undo() refused -3", "fill(0) refused -3", "cyclic(0, 3)", "product(0, 0, 0) refused -3");
        s.says(19, "-5 no room;",
                "tape x=x", "law() -> 0", "tape x=x", "law() -> 1", "tape x=x", "law() -> 2", "tape x=x",
                "law() -> 3", "tape x=x", "law() -> 4", "tape x=x", "law() -> 5", "tape x=x", "law() -> 6",
                "tape x=x", "law() -> 7", "law() refused -5");
        // Each pair of codes that one call can be refused by.
        s.says(12, "The first of these in that order.",
                "cyclic(0, 4)", "extend(6, 5, 0) refused -1", "extend(6, 0, 0) refused -1",
                "extend(5, 5, 0) refused -2", "quotient(6, 0, 3) refused -1", "quotient(1, 5, 3) refused -2",
                "find(0, 7, 0, 0, 9) refused -1", "find(0, 3, 0, 0, 9) refused -3", "fill(6) refused -1",
                "fill(0) refused -3", "back(2) refused -1");
    }
}
