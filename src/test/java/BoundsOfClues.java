/** Promises 38 to 48 and what the terms say of clues, walks and images. */
final class BoundsOfClues {
    private static final String Z4 = "0123123023013012";
    private static final String[] FIRST_ROW_OF_SIX = {"board(6)", "clue(0, 0, 0)", "clue(0, 1, 1)", "clue(0, 2, 2)",
        "clue(0, 3, 3)", "clue(0, 4, 4)", "clue(0, 5, 5)"};

    private BoundsOfClues() {
    }

    static void hold(Sentences s) {
        board(s);
        clue(s);
        filled(s);
        fill(s);
        spare(s);
        walk(s);
        draws(s);
        drawn(s);
        image(s);
        back(s);
        whatImagesKeep(s);
        whatImagesDoNotKeep(s);
        count(s);
        countOfRefusals(s);
        status(s);
        statusOfOthers(s);
    }

    private static void board(Sentences s) {
        s.says(38, "CLUES: told cells of a TABLE of an ORDER (none at first, ORDER 0);",
                "count(2) -> 0", "count(3) -> 0", "filled() -> NONE", "fill(0) refused -3",
                "clue(0, 0, 0) refused -1");
        s.says(38, "CLUES are none then,",
                "board(3) -> 0", "clue(0, 0, 1)", "clue(2, 2, 2)", "count(3) -> 2", "board(3) -> 0", "count(3) -> 0",
                "filled() -> 12", "clue(0, 0, 1) -> NONE", "clue(0, 1, 0)", "board(2) -> 0", "count(3) -> 0",
                "clue(0, 0, 1) -> NONE", "clue(1, 1, 1) -> NONE", "clue(0, 1, 0) -> NONE", "board(6)",
                "clue(5, 5, 5)", "board(1)", "board(6)", "clue(5, 5, 5) -> NONE");
        s.says(38, "of ORDER n (1 .. 6): 0.",
                "board(1) -> 0", "count(2) -> 1", "board(6) -> 0", "count(2) -> 6", "clue(5, 5, 5) -> NONE",
                "board(1) -> 0", "clue(0, 0, 0) -> NONE", "filled() -> 1", "clue(1, 0, 0) refused -1");
        s.says(38, "-1.",
                "board(0) refused -1", "board(7) refused -1", "board(-1) refused -1", "board(LEAST) refused -1",
                "board(MOST) refused -1", "count(2) -> 0", "board(3)", "clue(1, 1, 1)", "board(0) refused -1",
                "board(7) refused -1", "count(2) -> 3", "clue(1, 1, 1) -> 1");
    }

    private static void clue(Sentences s) {
        s.says(39, "A CLUE (value NONE: none) for a cell: what it was (NONE).",
                "board(4)", "clue(3, 0, 2) -> NONE", "clue(0, 3, 1) -> NONE", "clue(3, 0, 3) -> 2",
                "clue(3, 0, NONE) -> 3", "clue(3, 0, NONE) -> NONE", "clue(0, 3, 0) -> 1", "clue(0, 3, 0) -> 0",
                "count(3) -> 1", "clue(3, 3, 3) -> NONE", "clue(0, 0, 0) -> NONE", "count(3) -> 3");
        s.says(39, "-1",
                "board(3)", "clue(1, 2, 1)", "clue(3, 0, 0) refused -1", "clue(0, 3, 0) refused -1",
                "clue(-1, 1, 0) refused -1", "clue(1, -1, 0) refused -1", "clue(0, 0, 3) refused -1",
                "clue(0, 0, -2) refused -1", "clue(MOST, 0, 0) refused -1", "clue(0, LEAST, 0) refused -1",
                "clue(0, 0, MOST) refused -1", "clue(0, 0, LEAST) refused -1", "clue(3, 0, NONE) refused -1",
                "clue(1, 2, 1) -> 1");
        s.says(39, "(no board(), too).",
                "clue(0, 0, 0) refused -1", "clue(0, 0, NONE) refused -1", "count(3) -> 0", "board(1)",
                "clue(0, 0, NONE) -> NONE", "clue(0, 0, 0) -> NONE", "clue(0, 0, 0) -> 0");
        // Clues may clash: then nothing is filled.
        s.says(39, "A CLUE (value NONE: none) for a cell",
                "board(2)", "clue(0, 0, 0)", "clue(0, 1, 0) -> NONE", "count(3) -> 2", "filled() -> 0",
                "clue(0, 1, NONE) -> 0", "filled() -> 1");
    }

    private static void filled(Sentences s) {
        s.says(40, "FILLED: TABLES that have all of them;",
                "board(3)", "clue(0, 0, 0)", "filled() -> 4", "clue(1, 1, 0)", "filled() -> 2", "clue(2, 2, 1)",
                "filled() -> 0", "clue(2, 2, 0)", "filled() -> 2", "clue(0, 1, 1)", "filled() -> 1", "board(2)",
                "clue(0, 0, 1)", "clue(1, 1, 1)", "filled() -> 1", "clue(1, 1, 0)", "filled() -> 0");
        s.says(40, "How many TABLES are FILLED",
                "board(1)", "filled() -> 1", "board(2)", "filled() -> 2", "board(3)", "filled() -> 12", "board(4)",
                "filled() -> 576",
                // In the last row no cell can have 5.
                "board(6)", "clue(0, 0, 5)", "clue(1, 1, 5)", "clue(2, 2, 5)", "clue(3, 3, 5)", "clue(4, 4, 5)",
                "clue(5, 5, 0)", "filled() -> 0");
        s.says(40, "(20,000 at most).",
                "board(5)", "filled() -> 20000", "board(6)", "filled() -> 20000", FIRST_ROW_OF_SIX,
                "filled() -> 20000", "clue(1, 0, 1)", "clue(2, 0, 2)", "filled() -> 20000", "clue(3, 0, 3)",
                "filled() -> 18816", "clue(4, 0, 4)", "filled() -> 9408", "clue(5, 0, 5)", "filled() -> 9408");
        s.says(40, "NONE (no board()).",
                "filled() -> NONE", "board(7) refused -1", "filled() -> NONE", "image(0)", "board(2)",
                "filled() -> 2", "back(0)", "filled() -> NONE");
    }

    private static void fill(Sentences s) {
        s.says(41, "the FIRST row by row.",
                "board(4)", "fill(0)", "cells(0) -> 0123103223013210", "clue(3, 3, 3)", "fill(0)",
                "cells(0) -> 0132132032012013", "clue(3, 0, 0)", "fill(0)", "cells(0) -> 1032230131200213",
                "board(4)", "clue(0, 0, 3)", "fill(0)", "cells(0) -> 3012012312302301", "board(3)", "clue(2, 2, 0)",
                "fill(0)", "cells(0) -> 012201120");
        s.says(41, "A TABLE (0 .. 5) becomes the FIRST that is FILLED: its ORDER.",
                "board(1)", "fill(0) -> 1", "cells(0) -> 0", "board(6)", "fill(5) -> 6",
                "cells(5) -> 012345103254234501325410450123541032", "count(10) -> 2", "board(2)", "clue(0, 0, 1)",
                "fill(5) -> 2", "cells(5) -> 1001", "count(3) -> 1");
        s.says(41, "-1;",
                "cyclic(0, 2)", "board(2)", "fill(-1) refused -1", "fill(6) refused -1", "fill(LEAST) refused -1",
                "fill(MOST) refused -1", "fill(5) -> 2");
        s.says(41, "-3 there is none,",
                "cyclic(0, 2)", "board(3)", "clue(0, 0, 1)", "clue(0, 1, 1)", "fill(0) refused -3",
                "fill(6) refused -1", "clue(0, 1, NONE)", "fill(0) -> 3");
        s.says(41, "no board().",
                "cyclic(0, 2)", "fill(0) refused -3", "fill(1) refused -3", "fill(6) refused -1");
    }

    private static void spare(Sentences s) {
        s.says(42, "A CLUE can be SPARED, if as many are FILLED without it",
                "board(3)", "clue(0, 0, 0)", "spare(0, 0) -> 0", "clue(0, 1, 1)", "clue(1, 0, 1)",
                "spare(0, 0) -> 0", "clue(1, 1, 2)", "spare(0, 0) -> 1", "spare(1, 1) -> 1", "count(3) -> 4",
                "filled() -> 1", "board(1)", "clue(0, 0, 0)", "spare(0, 0) -> 1");
        // None with it: then none without it either, or else it can't be.
        s.says(42, "if as many are FILLED without it",
                "board(3)", "clue(0, 0, 0)", "clue(0, 1, 0)", "clue(2, 2, 1)", "spare(2, 2) -> 1",
                "spare(0, 0) -> 0", "spare(0, 1) -> 0", "clue(0, 2, 0)", "spare(0, 1) -> 1");
        s.says(42, "(of more than 20,000 that many).",
                // 56,448 with it, four times as many without.
                FIRST_ROW_OF_SIX, "clue(1, 0, 1)", "clue(2, 0, 2)", "spare(2, 0) -> 1", "spare(1, 0) -> 1",
                // 18,816 with it, 56,448 without.
                "clue(3, 0, 3)", "spare(3, 0) -> 0", "clue(4, 0, 4)", "spare(4, 0) -> 0", "clue(5, 0, 5)",
                "spare(5, 0) -> 1", "spare(4, 0) -> 1");
        s.says(42, "(of more than 20,000 that many).",
                "board(5)", "clue(0, 0, 0)", "spare(0, 0) -> 1", "board(4)", "clue(0, 0, 0)", "spare(0, 0) -> 0");
        s.says(42, "Whether the CLUE of a cell can be SPARED: 1, 0.",
                "board(2)", "clue(1, 1, 1)", "spare(1, 1) -> 0", "clue(1, 1, 1) -> 1", "clue(0, 0, 1)",
                "spare(1, 1) -> 1", "spare(0, 0) -> 1", "count(3) -> 2");
        s.says(42, "NONE (no CLUE there, too).",
                "spare(0, 0) -> NONE", "board(3)", "spare(0, 0) -> NONE", "clue(0, 0, 1)", "spare(1, 0) -> NONE",
                "spare(3, 0) -> NONE", "spare(0, 3) -> NONE", "spare(-1, 0) -> NONE", "spare(0, -1) -> NONE",
                "spare(MOST, 0) -> NONE", "spare(0, LEAST) -> NONE", "spare(0, 0) -> 0", "clue(0, 0, NONE)",
                "spare(0, 0) -> NONE");
    }

    private static void walk(Sentences s) {
        s.says(43, "A WALK of steps (0 .. 200) from a TABLE, kept as the latest: in how many cells it is otherwise "
                + "then.",
                "cyclic(5, 4)", "walk(5, 9, 0) -> 0", "drawn -> " + Z4, "walk(5, 9, 1) -> 8",
                "drawn -> 1230012323013012",
                // The second step goes back.
                "walk(5, 9, 2) -> 0", "drawn -> " + Z4, "walk(5, 0, -1) refused -1", "walk(5, 0, 201) refused -1",
                "walk(5, 0, LEAST) refused -1");
        s.says(43, "A WALK of steps (0 .. 200)",
                "cyclic(0, 6)", "walk(0, 0, 200) -> 34", "drawn -> 345012251304024153130245512430403521",
                "walk(0, 1000000, 200) -> 33", "drawn -> 530421405312351204214053042135123540",
                "walk(0, 0, MOST) refused -1");
        s.says(43, "on paper,",
                "cyclic(0, 4)", "walk(0, 0, 1) -> 4", "cells(0) -> " + Z4, "count(10) -> 1", "undo() -> 0",
                "order(0) -> NONE", "drawn -> 0123103223013210");
        s.says(43, "-1;",
                "cyclic(0, 3)", "walk(0, -1, 1) refused -1", "walk(0, 1000001, 1) refused -1",
                "walk(0, LEAST, 1) refused -1", "walk(0, MOST, 1) refused -1", "walk(1, -1, 1) refused -1",
                "walk(6, 0, 201) refused -1", "drawn -> none");
        s.says(43, "-2;",
                "cyclic(0, 3)", "walk(1, 0, 1) refused -2", "walk(5, 0, 0) refused -2", "walk(6, 0, 1) refused -2",
                "walk(-1, 0, 1) refused -2", "walk(MOST, 0, 1) refused -2", "walk(LEAST, 0, 1) refused -2",
                "drawn -> none");
        s.says(43, "-3 ORDER 1.",
                "cyclic(0, 1)", "walk(0, 0, 1) refused -3", "walk(0, 0, 0) refused -3", "walk(0, 0, 201) refused -1",
                "walk(0, 1000001, 0) refused -1", "drawn -> none");
        s.says(43, "A WALK from a TABLE of ORDER 2 at least,",
                "cyclic(0, 2)", "walk(0, 0, 1) -> 4", "drawn -> 1001", "walk(0, 1000000, 200) -> 0", "drawn -> 0110",
                "cyclic(0, 1)", "walk(0, 0, 1) refused -3", "drawn -> 0110");
    }

    private static void draws(Sentences s) {
        s.says(43, "with a SEED: s is the SEED (0 .. 1,000,000);",
                "cyclic(0, 6)", "walk(0, 0, 1) -> 6", "drawn -> 012345143052234501325410450123501234",
                "walk(0, 1000000, 1) -> 6", "drawn -> 214305123450032541345012450123501234",
                "walk(0, -1, 1) refused -1", "walk(0, 1000001, 1) refused -1");
        // The first draw is 0 here, and 1,000,002 there.
        s.says(43, "a DRAW of m: s becomes (s times 1103 and 12345) modulo 1,000,003, it is s modulo m.",
                "cyclic(0, 4)", "walk(0, 870345, 1) -> 8", "drawn -> 1230012323013012", "walk(0, 327279, 1) -> 8",
                "drawn -> 0123230112303012", "cyclic(0, 3)", "walk(0, 0, 200) -> 9", "drawn -> 120201012",
                "walk(0, 1000000, 200) -> 9", "drawn -> 201012120");
        // Rows 1 and 0; 1 and 1, which is 2; 1 and 2, which is 3; 3 and 2; 0 and 0, which is 1; 0 and 2, which
        // is 3; 2 and 0.
        s.says(43, "A step: a DRAW of n: row a; of n - 1: row b (from a on one more);",
                "cyclic(0, 4)", "walk(0, 8, 1) -> 8", "drawn -> 1230012323013012", "walk(0, 4, 1) -> 8",
                "drawn -> 0123230112303012", "walk(0, 0, 1) -> 4", "drawn -> 0123103223013210",
                "walk(0, 14, 1) -> 8", "drawn -> 0123123030122301", "walk(0, 9, 1) -> 8",
                "drawn -> 1230012323013012", "walk(0, 1, 1) -> 8", "drawn -> 3012123023010123", "walk(0, 7, 1) -> 4",
                "drawn -> 2103123003213012");
        // With seed 0 the rows are 1 and 3, the column is 1: turn() does the same.
        s.says(43, "of n: column c: that CYCLE is SWITCHED.",
                "cyclic(0, 4)", "walk(0, 0, 1) -> 4", "turn(0, 1, 3, 1) -> 2", "cells(0) -> 0123103223013210",
                "drawn -> 0123103223013210", "cyclic(1, 4)", "walk(1, 7, 1)", "turn(1, 2, 0, 0) -> 2",
                "cells(1) -> 2103123003213012", "drawn -> 2103123003213012");
    }

    private static void drawn(Sentences s) {
        s.says(44, "A cell of the table behind the latest WALK.",
                "cyclic(0, 3)", "walk(0, 0, 1) -> 6", "drawn(0, 0) -> 2", "drawn(2, 2) -> 2", "drawn(0, 2) -> 1",
                "drawn(2, 0) -> 0", "cyclic(1, 2)", "walk(1, 0, 0) -> 0", "drawn(1, 1) -> 0", "drawn(2, 2) -> NONE",
                "cyclic(1, 6)", "drawn -> 0110");
        s.says(44, "NONE.",
                "drawn(0, 0) -> NONE", "cyclic(0, 3)", "drawn(0, 0) -> NONE", "walk(1, 0, 1) refused -2",
                "drawn(0, 0) -> NONE", "walk(0, 0, 0)", "drawn(2, 2) -> 1", "drawn(3, 0) -> NONE",
                "drawn(0, 3) -> NONE", "drawn(-1, 0) -> NONE", "drawn(0, -1) -> NONE", "drawn(MOST, 0) -> NONE",
                "drawn(0, LEAST) -> NONE");
    }

    private static void image(Sentences s) {
        s.says(45, "IMAGE k is kept: 0;",
                "image(0) -> 0", "cyclic(0, 2)", "image(1) -> 0", "cyclic(0, 3)", "back(0)", "order(0) -> NONE",
                "back(1)", "order(0) -> 2", "image(0) -> 0", "cyclic(0, 4)", "back(0)", "order(0) -> 2");
        s.says(45, "-1.",
                "cyclic(0, 2)", "image(-1) refused -1", "image(2) refused -1", "image(LEAST) refused -1",
                "image(MOST) refused -1", "back(0) refused -2", "back(1) refused -2");
        s.says(45, "IMAGES 0, 1",
                "image(0) -> 0", "image(1) -> 0", "image(2) refused -1", "back(0) -> 0", "back(1) -> 0",
                "back(2) refused -1");
    }

    private static void back(Sentences s) {
        s.says(46, "BACK to IMAGE k: 0.",
                "cyclic(0, 2)", "image(0)", "cyclic(0, 3)", "image(1)", "cyclic(0, 4)", "back(0) -> 0",
                "order(0) -> 2", "back(1) -> 0", "order(0) -> 3", "back(1) -> 0", "order(0) -> 3");
        s.says(46, "-1;",
                "cyclic(0, 2)", "image(0)", "image(1)", "cyclic(0, 3)", "back(-1) refused -1", "back(2) refused -1",
                "back(LEAST) refused -1", "back(MOST) refused -1", "order(0) -> 3");
        s.says(46, "-2 it was not kept.",
                "cyclic(0, 2)", "back(0) refused -2", "back(1) refused -2", "image(1)", "back(0) refused -2",
                "back(1) -> 0", "back(0) refused -2", "image(2) refused -1", "back(0) refused -2",
                "back(2) refused -1");
        s.says(46, "(IMAGES stay).",
                "image(0)", "cyclic(0, 2)", "image(1)", "back(0)", "order(0) -> NONE", "back(1) -> 0",
                "order(0) -> 2", "cyclic(0, 5)", "turn(0, 0, 1, 0)", "back(1) -> 0", "cells(0) -> 0110",
                "turn(0, 0, 1, 0)", "undo()", "back(1)", "cells(0) -> 0110", "back(0) -> 0", "count(0) -> 0");
    }

    private static void whatImagesKeep(Sentences s) {
        s.says(46, "BACK to one all that it keeps is as it was then",
                "cyclic(0, 2)", "cyclic(5, 3)", "image(0)", "turn(0, 0, 1, 0)", "cyclic(5, 6)", "cyclic(1, 1)",
                "back(0)", "cells(0) -> 0110", "cells(5) -> 012120201", "order(1) -> NONE", "count(0) -> 2",
                "count(10) -> 2", "undo() -> 1", "order(5) -> NONE");
        s.says(46, "keep all",
                "tape x = y", "law()", "image(0)", "tape x = x", "law()", "count(1) -> 2", "back(0)",
                "count(1) -> 1", "cyclic(0, 2)", "holds(0, 0) -> 0", "holds(0, 1) -> NONE", "tape y = y",
                "law() -> 1", "holds(0, 1) -> 1");
        s.says(46, "keep all",
                "image(1)", "board(4)", "clue(0, 0, 3)", "clue(3, 3, 2)", "image(0)", "clue(0, 0, 1)",
                "clue(1, 1, 0)", "board(6)", "clue(5, 5, 5)", "back(0)", "count(2) -> 4", "count(3) -> 2",
                "clue(0, 0, 3) -> 3", "clue(3, 3, 2) -> 2", "clue(1, 1, 0) -> NONE", "back(1)", "count(2) -> 0",
                "count(3) -> 0", "filled() -> NONE", "clue(0, 0, 0) refused -1");
        s.says(46, "keep all",
                "cyclic(0, 2)", "cyclic(0, 3)", "cyclic(0, 4)", "undo()", "image(0)", "cyclic(0, 5)",
                "count(11) -> 0", "back(0)", "count(10) -> 2", "count(11) -> 1", "redo() -> 0", "order(0) -> 4",
                "undo() -> 2", "undo() -> 1", "undo() -> 0", "order(0) -> NONE", "back(0)", "order(0) -> 3",
                "count(10) -> 2", "count(11) -> 1");
        // The law that was kept comes back, though another one has its number now.
        s.says(46, "keep all",
                "cyclic(0, 2)", "image(0)", "tape x = x", "law() -> 0", "image(1)", "back(0)", "tape x = y",
                "law() -> 0", "holds(0, 0) -> 0", "back(1)", "holds(0, 0) -> 1", "back(0)", "holds(0, 0) -> NONE");
        // So do the tables that were changed, though others have been changed since.
        s.says(46, "keep all",
                "image(0)", "cyclic(1, 2)", "cyclic(2, 3)", "cyclic(1, 4)", "undo()", "image(1)", "back(0)",
                "cyclic(5, 6)", "cyclic(5, 5)", "cyclic(5, 4)", "back(1)", "redo() -> 0", "order(1) -> 4", "undo()",
                "order(1) -> 2", "undo()", "order(2) -> NONE", "undo()", "order(1) -> NONE", "order(5) -> NONE",
                "count(0) -> 0");
        s.says(46, "keep all",
                "image(0)", "cyclic(1, 2)", "undo()", "image(1)", "cyclic(5, 6)", "back(1)", "count(11) -> 1",
                "redo() -> 0", "cells(1) -> 0110", "order(5) -> NONE", "back(0)", "redo() refused -3");
        // Full as it can be: 30 changes, with an older one let go.
        s.says(46, "keep all",
                "cyclic(0, 2)", "30 times rename(0, 1)", "10 times undo()", "image(0)", "cyclic(0, 3)",
                "20 times undo()", "back(0)", "count(10) -> 20", "count(11) -> 10", "20 times undo()",
                "undo() refused -3", "cells(0) -> 0110", "30 times redo()", "redo() refused -3", "cells(0) -> 0110");
    }

    private static void whatImagesDoNotKeep(Sentences s) {
        s.says(46, "but the TAPE,",
                "tape x=x", "image(0)", "end(1)", "back(0)", "count(4) -> 1", "end(0)", "tape y=yabc", "back(0)",
                "count(4) -> 6", "end(3)", "law() -> 0", "cyclic(0, 2)", "back(0)", "count(4) -> 0");
        s.says(46, "FAULT,",
                "tape x=", "law() refused -6", "image(0)", "tape =", "law() refused -6", "back(0)", "fault() -> 0",
                "tape x=x", "law() -> 0", "fault() -> NONE", "back(0)", "fault() -> NONE");
        s.says(46, "the latest WALK;",
                "cyclic(0, 3)", "image(0)", "walk(0, 0, 1)", "back(0)", "drawn -> 201120012", "image(1)",
                "cyclic(0, 2)", "walk(0, 0, 1)", "back(1)", "drawn -> 1001", "back(0)", "drawn -> 1001");
    }

    private static void count(Sentences s) {
        s.says(47, "0 TABLES there are,",
                "count(0) -> 0", "cyclic(0, 2)", "cyclic(5, 2)", "cyclic(5, 3)", "count(0) -> 2", "cyclic(1, 1)",
                "cyclic(2, 1)", "cyclic(3, 1)", "cyclic(4, 1)", "count(0) -> 6", "undo()", "count(0) -> 5");
        s.says(47, "1 LAWS,",
                "count(1) -> 0", "tape x=x", "law()", "count(1) -> 1", "tape x", "law() refused -6", "count(1) -> 1");
        s.says(47, "2 ORDER of the CLUES, 3 CLUES,",
                "count(2) -> 0", "count(3) -> 0", "board(6)", "count(2) -> 6", "count(3) -> 0", "clue(5, 5, 0)",
                "clue(5, 5, 1)", "clue(0, 0, 0)", "count(3) -> 2", "clue(5, 5, NONE)", "count(3) -> 1",
                "clue(5, 5, NONE)", "count(3) -> 1", "board(2)", "clue(0, 0, 0)", "clue(0, 1, 0)", "clue(1, 0, 0)",
                "clue(1, 1, 0)", "count(3) -> 4", "board(1)", "count(2) -> 1", "count(3) -> 0");
        s.says(47, "4 bytes of the TAPE,",
                "count(4) -> 0", "tape abc", "count(4) -> 3", "end(0)", "count(4) -> 0",
                "20 times feed(0, 0, 0, 0, 0)", "count(4) -> 400", "law() refused -6", "count(4) -> 0");
        s.says(47, "10 changes that can be UNDONE, 11 REDONE.",
                "count(10) -> 0", "count(11) -> 0", "31 times cyclic(0, 2)", "count(10) -> 30", "count(11) -> 0",
                "undo()", "count(10) -> 29", "count(11) -> 1", "29 times undo()", "count(10) -> 0", "count(11) -> 30");
        s.says(47, "NONE for others.",
                "count(-1) -> NONE", "count(12) -> NONE", "count(LEAST) -> NONE", "count(MOST) -> NONE");
    }

    private static void countOfRefusals(Sentences s) {
        s.says(47, "5 .. 9 how many calls were REFUSED by -1, -2, -3, -5, -6",
                "count(5) -> 0", "cyclic(0, 0) refused -1", "board(0) refused -1", "count(5) -> 2",
                "copy(0, 1) refused -2", "count(6) -> 1", "undo() refused -3", "redo() refused -3",
                "fill(0) refused -3", "count(7) -> 3", "law() refused -6", "row(0) refused -6", "count(9) -> 2",
                "count(8) -> 0", "count(5) -> 2");
        s.says(47, "5 .. 9 how many calls were REFUSED by -1, -2, -3, -5, -6",
                "tape x=x", "law()", "tape x=x", "law()", "tape x=x", "law()", "tape x=x", "law()", "tape x=x",
                "law()", "tape x=x", "law()", "tape x=x", "law()", "tape x=x", "law()", "count(8) -> 0",
                "law() refused -5", "law() refused -5", "count(8) -> 2", "count(9) -> 0");
        // What answers NONE is not refused, and neither is a clue that was none.
        s.says(47, "5 .. 9 how many calls were REFUSED",
                "order(9) -> NONE", "at(0, 0, 0, 0) -> NONE", "unit(0, 0) -> NONE", "end(-1) -> NONE",
                "holds(0, 0) -> NONE", "listed(0, 0, 0) -> NONE", "filled() -> NONE", "spare(0, 0) -> NONE",
                "drawn(0, 0) -> NONE", "count(12) -> NONE", "fault() -> NONE", "name(0, 0, 0) -> NONE",
                "alike(0, 0, 0) -> NONE", "board(2)", "clue(0, 0, NONE) -> NONE", "clue(0, 0, 1) -> NONE",
                "count(5) -> 0", "count(6) -> 0", "count(7) -> 0", "count(8) -> 0", "count(9) -> 0");
        s.says(47, "(IMAGES do not keep that),",
                "cyclic(0, 0) refused -1", "image(0)", "cyclic(0, 0) refused -1", "copy(0, 1) refused -2",
                "undo() refused -3", "law() refused -6", "back(0)", "count(5) -> 2", "count(6) -> 1",
                "count(7) -> 1", "count(9) -> 1");
    }

    private static void status(Sentences s) {
        s.says(48, "or ahead of any.",
                "status() -> 0", "order(9) -> NONE", "status() -> 0");
        s.says(48, "What the latest call of row, cyclic, copy, isotope, conjugate, rename, turn, product, extend, "
                + "quotient, undo, redo, law, find, board, clue, fill, walk, image, back was REFUSED by;",
                "row(0) refused -6", "cyclic(0, 0) refused -1", "copy(0, 0) refused -2", "row(6) refused -1",
                "isotope(0, 0, 0) refused -2", "board(7) refused -1", "conjugate(0, 0) refused -2",
                "clue(0, 0, 0) refused -1", "rename(0, 0) refused -2", "undo() refused -3",
                "turn(0, 0, 1, 0) refused -2", "redo() refused -3", "product(0, 0, 0) refused -2",
                "law() refused -6", "extend(0, 0, 0) refused -2", "find(0, 3, 0, 0, 1) refused -3",
                "quotient(0, 0, 1) refused -2", "image(2) refused -1", "walk(0, 0, 0) refused -2",
                "fill(0) refused -3");
        s.says(48, "back was REFUSED by;",
                "undo() refused -3", "back(0) refused -2", "status() -> -2", "back(2) refused -1", "status() -> -1");
        String refused = "row(6) refused -1";
        s.says(48, "0 if it was not,",
                refused, "bytes 2 0 1 1 0", "row(0)", refused, "cyclic(0, 2)", refused, "copy(0, 0)", refused,
                "isotope(0, 0, 0)", refused, "conjugate(0, 0)", refused, "rename(0, 0)", refused, "turn(0, 0, 1, 0)",
                "status() -> 0");
        s.says(48, "0 if it was not,",
                refused, "cyclic(0, 1)", refused, "product(0, 0, 0)", refused, "extend(1, 0, 0)", refused,
                "quotient(0, 0, 1)", refused, "undo()", refused, "redo()", refused, "tape x=x", "law()", refused,
                "find(0, 1, 0, 0, 0)", "status() -> 0");
        s.says(48, "0 if it was not,",
                refused, "board(1)", refused, "clue(0, 0, NONE) -> NONE", refused, "fill(0)", refused,
                "cyclic(0, 2)", refused, "walk(0, 0, 0)", refused, "image(0)", refused, "back(0)", "status() -> 0");
    }

    private static void statusOfOthers(Sentences s) {
        // Behind each line the status is looked at: these leave it as it is.
        s.says(48, "What the latest call of",
                "undo() refused -3", "feed(0, 0, 0, 0, 0) -> 20", "end(0) -> 0", "end(1) -> NONE",
                "order(0) -> NONE", "at(0, 0, 0, 0) -> NONE", "unit(0, 0) -> NONE", "fault() -> NONE",
                "holds(0, 0) -> NONE", "fails(0, 0, 0) -> NONE", "listed(3, 0, 0) -> 1", "listed(7, 0, 0) -> NONE",
                "nucleus(0, 0) -> NONE", "counts(0, 0) -> NONE", "closed(0, 1) -> NONE", "parts(0, 0) -> NONE",
                "makers(0, 0) -> NONE", "group(0, 0) -> NONE");
        s.says(48, "What the latest call of",
                "undo() refused -3", "name(0, 0, 0) -> NONE", "alike(0, 0, 0) -> NONE", "autos(0, 0) -> NONE",
                "crossings(0, 0) -> NONE", "cycles(0, 0, 1, 0) -> NONE", "apart(0, 0) -> NONE", "near(0, 0) -> NONE",
                "filled() -> NONE", "spare(0, 0) -> NONE", "drawn(0, 0) -> NONE", "count(7) -> 1",
                "count(99) -> NONE", "status() -> -3", "status() -> -3");
        s.says(48, "What the latest call of",
                "cyclic(0, 2)", "board(2)", "clue(0, 0, 1)", "undo() -> 0", "redo() -> 0", "redo() refused -3",
                "order(0) -> 2", "at(0, 0, 1, 1) -> 0", "unit(0, 0) -> 0", "nucleus(0, 0) -> 3", "closed(0, 2) -> 3",
                "name(0, 2, 0) -> 0", "alike(0, 0, 1) -> 1", "near(0, 0) -> 0", "filled() -> 1", "spare(0, 0) -> 0",
                "status() -> -3");
    }
}
