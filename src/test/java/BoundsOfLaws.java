/** Promises 19 to 24 and what the terms say of laws: how a text is read, where it fails, what is listed. */
final class BoundsOfLaws {
    /** y - x modulo 3: 0 is a unit of left alone. */
    private static final String[] MINUS = {"bytes 3 0 1 2 2 0 1 1 2 0", "row(0)"};
    /** 2 - x - y modulo 3: no x is x * x. */
    private static final String[] TWO_MINUS = {"bytes 3 2 1 0 1 0 2 0 2 1", "row(0)"};
    /** A loop of order 5 that is no group. */
    private static final String[] FIVE = {"bytes 5 0 1 2 3 4 1 0 3 4 2 2 3 4 0 1 3 4 1 2 0 4 2 0 1 3", "row(0)"};
    private static final String COMMUTES = "x * y = y * x";
    private static final String JOINS = "x * (y * z) = (x * y) * z";

    private BoundsOfLaws() {
    }

    static void hold(Sentences s) {
        law(s);
        fullOfLaws(s);
        tokens(s);
        grammar(s);
        letters(s);
        brackets(s);
        faults(s);
        fault(s);
        holds(s);
        meanings(s);
        conditions(s);
        fails(s);
        failuresInOrder(s);
        listed(s);
        lawsOfListed(s);
        find(s);
        foundInOrder(s);
    }

    private static String[] good(String text, int number) {
        return new String[] {"tape " + text, "law() -> " + number, "fault() -> NONE", "count(4) -> 0"};
    }

    private static String[] bad(String text, int place) {
        return new String[] {"tape " + text, "law() refused -6", "fault() -> " + place};
    }

    /** A law as number 0 and for how many it fails in table 0. */
    private static String[] failing(String text, int failures) {
        return new String[] {"image(0)", "tape " + text, "law() -> 0", "fails(0, 0, 0) -> " + failures,
            "holds(0, 0) -> " + (failures == 0 ? 1 : 0), "back(0)"};
    }

    private static String[] eight(String text) {
        String[] lines = new String[16];
        for (int i = 0; i < 8; i++) {
            lines[2 * i] = "tape " + text;
            lines[2 * i + 1] = "law() -> " + i;
        }
        return lines;
    }

    private static void law(Sentences s) {
        s.says(19, "The LAW on the TAPE, which is empty then: its number.",
                good(COMMUTES, 0), good(JOINS, 1), "count(1) -> 2", bad("x = ", 4), "count(1) -> 2", "count(4) -> 0",
                good("x = x", 2), "cyclic(0, 2)", "holds(0, 0) -> 1", "holds(0, 3) -> NONE");
        s.says(19, "-6 (blanks alone: FAULT at the end).",
                bad(" ", 1), bad("     ", 5), bad(" ".repeat(400), 400), bad("", 0), "count(1) -> 0");
        s.says(19, "TEXTS, 8 at most,",
                eight("x=y"), "count(1) -> 8", "tape x=y", "law() refused -5", "count(1) -> 8");
    }

    private static void fullOfLaws(Sentences s) {
        s.says(19, "-5 (ahead of reading it;",
                eight("x=y"), "tape x", "law() refused -5", "fault() -> NONE", "law() refused -5", "tape  ",
                "law() refused -5", "fault() -> NONE");
        s.says(19, "the TAPE is empty then, too);",
                eight("x=y"), "tape x=x", "law() refused -5", "count(4) -> 0");
        s.says(19, "LAWS are",
                eight("x=y"), "cyclic(0, 2)", "holds(0, 7) -> 0", "holds(0, 8) -> NONE", "holds(0, -1) -> NONE");
        // A law of an image that is gone back to makes room again.
        s.says(19, "-5",
                "image(0)", eight("x=y"), "tape x=x", "law() refused -5", "back(0)", "tape x=x", "law() -> 0",
                "count(1) -> 1");
    }

    private static void tokens(Sentences s) {
        s.says(19, "TOKENS: longest rows of letters a .. z,",
                bad("xy = x", 0), bad("x = xy", 4), bad("x = xif x = x", 4), bad("x = x ifx = x", 6),
                bad("x = x iff x = x", 6), bad("x = x i f x = x", 6), bad("x = x f", 6), bad("ee = e", 0),
                bad("a = x", 0), bad("x = b", 4));
        s.says(19, "TOKENS: longest rows of letters a .. z,",
                bad("zz = x", 0), bad("x = xz", 4), bad("xa = x", 0), bad("x = xza", 4), bad("az = x", 0),
                bad("x = zx", 4), bad("za * x = x", 0));
        s.says(19, "TOKENS: longest rows of letters a .. z,",
                bad("x = w", 4), bad("ex = x", 0), bad("x = x fi x = x", 6), bad("x=x if xx=x", 7), bad("if = x", 0),
                good("x=(x)if(x)=x", 0));
        s.says(19, "single other bytes,",
                bad("x == x", 3), bad("x ** x = x", 3), bad("X = x", 0), bad("x = 1", 4), bad("x\t= x", 1),
                bad("x = x\n", 5), bad("x = x.", 5), bad("x = x`", 5), bad("x = x{", 5), bad("x\u0000= x", 1));
        s.says(19, "single other bytes,",
                bad("\u00ff", 0), bad("x \u00e9", 2), bad("x = x\u00a0", 5), bad("x = \u00f8", 4),
                bad("x = x IF x = x", 6), bad("x \u0080= x", 2));
        s.says(19, "any blanks (32) between.",
                good("x=x", 0), good("   x   =   x   ", 1), good("(x)*(y)=x", 2), good(" ( x ) * ( y ) = x", 3),
                good("x=x  if  x=x", 4), good("x" + " ".repeat(397) + "=x", 5));
    }

    private static void grammar(Sentences s) {
        s.says(19, "LAW: SIDE [\"if\" SIDE].",
                good("x = x", 0), good("x = x if y = y", 1), bad("if x = x", 0), bad("x = x if", 8),
                bad("x = x if if x = x", 9), bad("x = x if y = y if z = z", 15), bad("x = x x = x", 6));
        s.says(19, "SIDE: EQUATION {\",\" EQUATION}.",
                good("x = y, y = z", 0), good("x = y, y = z, z = e if x = e, y = e", 1), bad("x = x,", 6),
                bad(", x = x", 0), bad("x = x,, y = y", 6), bad("x = x, if y = y", 7), bad("x = x if , y = y", 9),
                bad("x = x if y = y,", 15));
        s.says(19, "EQUATION: TERM \"=\" TERM.",
                bad("x", 1), bad("x =", 3), bad("= x", 0), bad("x = y = z", 6), bad("x, y = z", 1),
                bad("x if y = z", 2), bad("x = y if x", 10), bad("x = y if x, y = x", 10));
        s.says(19, "TERM: PART {(\"*\" | \"/\" | \"\\\") PART}",
                good("x * y / z \\ e = x", 0), bad("* x = x", 0), bad("x * = x", 4), bad("x = x *", 7),
                bad("x * / y = x", 4), bad("x y = x", 2), bad("x - y = x", 2), bad("x = x \\", 7));
        s.says(19, "PART: \"x\" | \"y\" | \"z\" | \"e\"",
                good("x = y", 0), good("z = e", 1), bad("w = x", 0), bad("x = f", 4), bad("x = d", 4),
                bad("0 = x", 0));
        s.says(19, "| \"(\" TERM \")\".",
                good("(x) = ((y))", 0), good("(x * y) * (z / e) = x", 1), bad("() = x", 1), bad("(x = y", 3),
                bad("(x", 2), bad("x) = y", 1), bad("x = y)", 5), bad("(x, y) = x", 2));
        s.says(19, "| \"(\" TERM \")\".",
                bad("(x)(y) = x", 3), bad("x (y) = x", 2), bad("(x) y = x", 4), bad("(x if y = z", 3),
                bad("(x * ) = y", 5), bad("((x) = y", 5), bad("(* x) = y", 1));
    }

    private static void letters(Sentences s) {
        String thirty = "x" + "*y".repeat(29);
        s.says(19, "32 letters (FAULT at the 33rd),",
                good(thirty + "=z*e", 0), good(thirty + "*x=e", 1), bad(thirty + "*x=e*y", thirty.length() + 5),
                bad(thirty + "=x*y*z", thirty.length() + 5), bad(thirty + "=x*y*(e)", thirty.length() + 6));
        s.says(19, "32 letters (FAULT at the 33rd),",
                good("e" + "*e".repeat(30) + "=e", 0), bad("e" + "*e".repeat(31) + "=e", 64),
                bad("e" + "*e".repeat(32), 64));
        // They are counted over all equations and both sides.
        String many = "x=x" + ",y=y".repeat(14) + " if z=e";
        s.says(19, "32 letters (FAULT at the 33rd),",
                good(many, 0), bad(many + ", e=e", many.length() + 2), bad(many + "*x", many.length() + 1),
                bad("x=x" + ",y=y".repeat(16), 64), good("x=x" + ",y=y".repeat(15), 1));
        // What else can't go on behind the 32nd: no letter, but the end or another token.
        s.says(19, "32 letters (FAULT at the 33rd),",
                bad("e" + "*e".repeat(31), 63), bad("e" + "*e".repeat(30) + "=e=", 63),
                bad("e" + "*e".repeat(30) + "=e e", 64), bad("e" + "*e".repeat(30) + "=e*", 64));
    }

    private static void brackets(Sentences s) {
        s.says(19, "8 brackets within one another (FAULT at the 9th) at most.",
                good("(".repeat(8) + "x" + ")".repeat(8) + "=x", 0),
                bad("(".repeat(9) + "x" + ")".repeat(9) + "=x", 8),
                good("x=" + "(".repeat(8) + "x" + ")".repeat(8), 1),
                bad("x=" + "(".repeat(9) + "x" + ")".repeat(9), 10), bad("(".repeat(9), 8), bad("(".repeat(8), 8));
        s.says(19, "8 brackets within one another (FAULT at the 9th) at most.",
                good("x=" + "(x*".repeat(8) + "x" + ")".repeat(8), 0),
                bad("x=" + "(x*".repeat(8) + "(x)" + ")".repeat(8), 26),
                good("(x)" + "*(y)".repeat(20) + "=((x))", 1), bad("( ".repeat(9) + "x", 16));
        // Those that are closed again do not count.
        String deep = "(".repeat(8) + "x" + ")".repeat(8);
        s.says(19, "8 brackets within one another (FAULT at the 9th) at most.",
                good(deep + "*" + deep + "=" + deep, 0), good(deep + "=" + deep + " if " + deep + "=" + deep, 1),
                bad(deep + "*(" + deep + ")=x", 26));
    }

    private static void faults(Sentences s) {
        s.says(19, "FAULT: the first TOKEN that can't go on there",
                bad("x = = a b c", 4), bad("  xy  =  x", 2), bad("x = x  ,  ,", 10), bad("x = x abc", 6),
                bad("x = (y * ) )", 9), bad(")", 0), bad("x = x if x = x if", 15));
        s.says(19, "(the end's: the TEXT's length).",
                bad("x", 1), bad("x   ", 4), bad("x = x if   ", 11), bad("(x", 2), bad("(x)", 3), bad("x = (x  ", 8),
                bad("x = x , ", 8), bad("x *", 3));
    }

    private static void fault(Sentences s) {
        s.says(20, "FAULT of the latest law() that read a TEXT: its place;",
                "fault() -> NONE", bad("x = ", 4), "fault() -> 4", bad("=", 0), "tape abc", "end(0)",
                "row(0) refused -6", "fault() -> 0", bad("x x", 2), "cyclic(0, 2)", "fault() -> 2");
        s.says(20, "NONE without.",
                "fault() -> NONE", bad("x = ", 4), good("x = x", 0), "fault() -> NONE");
        // What is refused by -5 read no text, so the fault ahead of it stays.
        s.says(20, "FAULT of the latest law() that read a TEXT",
                "image(0)", eight("x=y"), "image(1)", "back(0)", bad("x = =", 4), "back(1)", "tape x=x",
                "law() refused -5", "fault() -> 4", "law() refused -5", "fault() -> 4");
    }

    private static void holds(Sentences s) {
        s.says(21, "Whether a LAW HOLDS in a TABLE: 1, 0.",
                "cyclic(5, 6)", MINUS, good(COMMUTES, 0), good(JOINS, 1), "holds(5, 0) -> 1", "holds(0, 0) -> 0",
                "holds(5, 1) -> 1", "holds(0, 1) -> 0", "cyclic(0, 1)", "holds(0, 0) -> 1", "holds(0, 1) -> 1");
        s.says(21, "NONE.",
                "cyclic(0, 2)", "holds(0, 0) -> NONE", good("x=x", 0), "holds(0, 0) -> 1", "holds(0, 1) -> NONE",
                "holds(0, -1) -> NONE", "holds(0, 8) -> NONE", "holds(0, MOST) -> NONE", "holds(0, LEAST) -> NONE",
                "holds(1, 0) -> NONE", "holds(6, 0) -> NONE", "holds(-1, 0) -> NONE", "holds(MOST, 0) -> NONE");
        s.says(21, "A LAW HOLDS in a TABLE, if for all ELEMENTS as x, y, z",
                // Of all the very last alone fails, then the first alone.
                "cyclic(0, 2)", failing("x = e if x = y, y = z", 1), "turn(0, 0, 1, 0)",
                failing("x = e if x = y, y = z", 1), "cyclic(0, 3)", failing("e = x * y * z if x * y = e", 6),
                failing("x = e if x = y * z, y = x * z, z = x * y", 0));
    }

    private static void meanings(Sentences s) {
        // y - x: (x * y) * z is z - y + x, x * (y * z) is z - y - x.
        s.says(21, "from the left.",
                MINUS, failing("x * y * z = (x * y) * z", 0), failing("x * y * z = x * (y * z)", 18),
                failing("x / y / z = (x / y) / z", 0), failing("x / y / z = x / (y / z)", 18),
                // x \ y is x + y, x / y is y - x: x + y to z is z - x - y, x and z - y is x + z - y.
                failing("x \\ y / z = (x \\ y) / z", 0), failing("x \\ y / z = x \\ (y / z)", 18));
        // In this loop no two of the three are the same, and other tables come ahead of it and behind it.
        s.says(21, "x \\ y is the z with x * z = y; x / y the z with z * y = x.",
                "cyclic(0, 5)", failing("x \\ y = y / x", 0), FIVE, failing("x \\ (x * y) = y", 0),
                failing("x * (x \\ y) = y", 0), failing("x / y * y = x", 0), failing("x * y / y = x", 0),
                failing("x \\ y = y / x", 6), failing("x / y = x * y", 12), failing("x \\ y = x * y", 18),
                failing("x / y = x \\ y", 15), MINUS, failing("x \\ y = y / x", 6), failing("x / y = x * y", 0),
                failing("x \\ y = x * y", 6));
        s.says(21, "x \\ y is the z with x * z = y;",
                good("x \\ y = x * y", 0), good("x / y = x * y", 1), "cyclic(0, 5)", "fails(0, 0, 0) -> 20", FIVE,
                "fails(0, 0, 0) -> 18", "fails(0, 1, 0) -> 12", "cyclic(0, 5)", "fails(0, 1, 0) -> 20",
                "fails(0, 0, 0) -> 20", "listed(5, 1, 0) -> 0", "listed(4, 1, 0) -> 1", "listed(4, 3, 0) -> 1",
                "listed(2, 2, 0) -> 1");
        s.says(21, "(the UNIT; 0 without one)",
                MINUS, failing("e * x = x", 0), failing("x * e = x", 2), failing("x = e", 2),
                "bytes 3 1 2 0 0 1 2 2 0 1", "row(0)", failing("e * x = x", 3), "cyclic(0, 3)", "rename(0, 5)",
                failing("e * x = x, x * e = x", 0), failing("x = e", 2));
        s.says(22, "(the UNIT; 0 without one)",
                "cyclic(0, 3)", "rename(0, 5)", good("x = e", 0), "fails(0, 0, 1) -> 0", MINUS,
                "fails(0, 0, 1) -> 1", "cyclic(0, 1)", "fails(0, 0, 0) -> 0");
        s.says(21, "letters that are not in it are 0.",
                TWO_MINUS, failing("e * e = e", 1), failing("e = e", 0), good("e * e = e", 0), "fails(0, 0, 1) -> 0",
                "fails(0, 0, 2) -> 0", "fails(0, 0, 3) -> 0");
    }

    private static void conditions(Sentences s) {
        s.says(21, "for which all EQUATIONS behind \"if\" are so all ahead of it are;",
                "cyclic(0, 3)", failing("x = y if x = y", 0), failing("x = y if x = z, y = z", 0),
                failing("x = y if x = z", 6), failing("x = y, x = e if x = y", 2),
                failing("x = e, x = y if x = y", 2), failing("x = y if z = z, x = x", 18));
        // There is no x that is x * x: nothing to fail for.
        s.says(21, "for which all EQUATIONS behind \"if\" are so all ahead of it are;",
                TWO_MINUS, failing("x = y if x * x = x", 0), failing("x = y if y = y, x * x = x", 0),
                failing("x = y if x * x = x, y = y", 0));
        s.says(22, "else it FAILS for them;",
                "cyclic(0, 3)", good("x = e if y = x", 0), "fails(0, 0, 0) -> 2", "fails(0, 0, 1) -> 1",
                "fails(0, 0, 2) -> 1", "fails(0, 0, 3) -> 0");
    }

    private static void fails(Sentences s) {
        s.says(22, "For how many x, y, z a LAW FAILS in a TABLE (what 0; letters that are not in it are one each),",
                "cyclic(0, 6)", failing("x = y", 30), failing("z = e", 5), failing("e = e * e", 0),
                failing("x = y, y = z", 210), failing("x = x if y = z", 0), failing("x = e if y = y", 30));
        s.says(22, "For how many x, y, z a LAW FAILS in a TABLE (what 0; letters that are not in it are one each),",
                TWO_MINUS, failing("e = e * e", 1), failing("x = x, e = e * e", 3), failing("y = y, e = e * e", 3),
                failing("x * y * z = x * y * z, e = e * e", 27), "cyclic(0, 1)", failing("x = y * z", 0));
        // All that there are, and as long as a law can be: 31 times x is x, where 30 times x is 0.
        s.says(22, "For how many x, y, z a LAW FAILS in a TABLE",
                "cyclic(0, 6)", failing("x" + "*x".repeat(30) + "=e", 5), failing("x" + "*x".repeat(30) + "=x", 0),
                failing("x=x" + ",y=y".repeat(14) + ",z=e", 180), failing("z=e" + ",y=y".repeat(14) + ",x=x", 180),
                failing("x=x if y=y" + ",y=y".repeat(13) + ",z=e", 0), "turn(0, 0, 1, 0)",
                failing("x*y*z=x*y*z,e=e*e", 216), failing("x=x,y=y,z=z,e=e*e", 216));
        s.says(22, "x, y, z of the first FAILURE (1, 2, 3; NONE without).",
                "cyclic(0, 2)", good("x = y, y = z", 0), "fails(0, 0, 1) -> 0", "fails(0, 0, 2) -> 0",
                "fails(0, 0, 3) -> 1", good("x = x", 1), "fails(0, 1, 0) -> 0", "fails(0, 1, 1) -> NONE",
                "fails(0, 1, 2) -> NONE", "fails(0, 1, 3) -> NONE");
        s.says(22, "NONE without). NONE.",
                "cyclic(0, 2)", good("x = y", 0), "fails(0, 0, -1) -> NONE", "fails(0, 0, 4) -> NONE",
                "fails(0, 0, MOST) -> NONE", "fails(0, 1, 0) -> NONE", "fails(0, -1, 0) -> NONE",
                "fails(0, 8, 0) -> NONE", "fails(1, 0, 0) -> NONE", "fails(6, 0, 0) -> NONE",
                "fails(-1, 0, 0) -> NONE", "fails(LEAST, 0, 0) -> NONE", "fails(0, 0, 0) -> 2");
    }

    private static void failuresInOrder(Sentences s) {
        s.says(22, "FAILURES are in the order of x, then y, then z.",
                "cyclic(0, 3)", good("z = y if x = e * x", 0), "fails(0, 0, 1) -> 0", "fails(0, 0, 2) -> 0",
                "fails(0, 0, 3) -> 1", good("z * y = x", 1), "fails(0, 1, 1) -> 0", "fails(0, 1, 2) -> 0",
                "fails(0, 1, 3) -> 1");
        s.says(22, "FAILURES are in the order of x, then y, then z.",
                "cyclic(0, 3)", good("y = x if z * z = x", 0), "fails(0, 0, 1) -> 0", "fails(0, 0, 2) -> 1",
                "fails(0, 0, 3) -> 0", good("x = e if y = x * x, z = y * y", 1), "fails(0, 1, 0) -> 2",
                "fails(0, 1, 1) -> 1", "fails(0, 1, 2) -> 2", "fails(0, 1, 3) -> 1");
    }

    private static void listed(Sentences s) {
        s.says(23, "How many of ORDER n (1 .. 6) are LISTED",
                "listed(1, 0, 0) -> 1", "listed(2, 0, 0) -> 1", "listed(3, 0, 0) -> 1", "listed(4, 0, 0) -> 4",
                "listed(5, 0, 0) -> 56", "listed(6, 0, 0) -> 9408", "listed(0, 0, 0) -> NONE",
                "listed(7, 0, 0) -> NONE", "listed(-1, 0, 0) -> NONE", "listed(MOST, 0, 0) -> NONE",
                "listed(LEAST, 0, 0) -> NONE");
        s.says(23, "by LAWS that HOLD and others that do not (bits of LAWS).",
                "listed(3, 1, 0) -> NONE", "listed(3, 0, 1) -> NONE", good("x=x", 0), "listed(3, 1, 0) -> 1",
                "listed(3, 0, 1) -> 0", "listed(3, 2, 0) -> NONE", "listed(3, 0, 2) -> NONE",
                "listed(3, 3, 0) -> NONE", "listed(3, -1, 0) -> NONE", "listed(3, 0, -1) -> NONE",
                "listed(3, LEAST, 0) -> NONE", "listed(3, 0, MOST) -> NONE");
        s.says(23, "(bits of LAWS). NONE.",
                eight("x=x"), "listed(3, 255, 0) -> 1", "listed(3, 0, 255) -> 0", "listed(3, 256, 0) -> NONE",
                "listed(3, 0, 256) -> NONE", "listed(3, 128, 127) -> 0", "listed(7, 255, 0) -> NONE");
    }

    private static void lawsOfListed(Sentences s) {
        s.says(23, "LISTED are all LOOPS of ORDER n with UNIT 0,",
                good("x * x = e", 0), good("e * x = x, x * e = x", 1), "listed(6, 2, 0) -> 9408",
                "listed(6, 0, 2) -> 0", "listed(4, 1, 0) -> 1", "listed(1, 1, 0) -> 1", "listed(1, 0, 1) -> 0");
        s.says(23, "in which all LAWS of some (bits) HOLD, and none of others (bits).",
                good(COMMUTES, 0), good(JOINS, 1), "listed(6, 1, 0) -> 456", "listed(6, 2, 0) -> 80",
                "listed(6, 3, 0) -> 60", "listed(6, 2, 1) -> 20", "listed(6, 1, 2) -> 396",
                "listed(6, 0, 3) -> 8932", "listed(6, 3, 3) -> 0", "listed(5, 1, 1) -> 0", "listed(5, 0, 3) -> 50");
    }

    private static void find(Sentences s) {
        s.says(24, "A TABLE (0 .. 5) becomes the i-th LISTED: 0.",
                "find(0, 1, 0, 0, 0) -> 0", "cells(0) -> 0", "find(5, 3, 0, 0, 0) -> 0", "cells(5) -> 012120201",
                good(JOINS, 0), "find(5, 5, 1, 0, 0) -> 0", "cells(5) -> 0123412340234013401240123",
                "find(5, 5, 1, 0, 5) -> 0", "cells(5) -> 0123414302231403042142013", "find(5, 5, 0, 1, 49) -> 0",
                "cells(5) -> 0123414320234013014242013");
        s.says(24, "-1 (n, bits);",
                "cyclic(0, 2)", "find(0, 0, 0, 0, 0) refused -1", "find(0, 7, 0, 0, 0) refused -1",
                "find(0, 3, 1, 0, 0) refused -1", "find(0, 3, 0, 1, 0) refused -1",
                "find(0, 3, -1, 0, 0) refused -1", "find(0, 3, 0, -1, 0) refused -1",
                "find(0, MOST, 0, 0, 0) refused -1", "find(0, 3, LEAST, MOST, 0) refused -1");
        s.says(24, "-1 (n, bits);",
                "cyclic(0, 2)", "find(-1, 3, 0, 0, 0) refused -1", "find(6, 3, 0, 0, 0) refused -1",
                "find(MOST, 3, 0, 0, 0) refused -1", "find(6, 3, 0, 0, 1) refused -1",
                "find(0, 3, 2, 0, 9) refused -1");
        s.says(24, "-1 (n, bits);",
                eight("x=x"), "find(0, 3, 255, 0, 0) -> 0", "find(0, 3, 256, 0, 0) refused -1",
                "find(0, 3, 0, 256, 0) refused -1", "find(0, 3, 0, 255, 0) refused -3");
        s.says(24, "-3 there is none.",
                "cyclic(0, 2)", "find(0, 1, 0, 0, 1) refused -3", "find(0, 4, 0, 0, 4) refused -3",
                "find(0, 4, 0, 0, 3) -> 0", "find(0, 6, 0, 0, 9408) refused -3", "find(0, 6, 0, 0, 9407) -> 0");
        s.says(24, "-3 there is none.",
                "cyclic(0, 2)", "find(0, 4, 0, 0, -1) refused -3", "find(0, 4, 0, 0, LEAST) refused -3",
                "find(0, 4, 0, 0, MOST) refused -3", good(JOINS, 0), "find(0, 4, 0, 1, 0) refused -3",
                "find(0, 4, 1, 1, 0) refused -3", "find(0, 6, 1, 0, 80) refused -3", "find(0, 6, 1, 0, 79) -> 0");
    }

    private static void foundInOrder(Sentences s) {
        s.says(24, "as rows row by row, lower ones ahead,",
                "find(0, 4, 0, 0, 0)", "cells(0) -> 0123103223013210", "find(0, 4, 0, 0, 1)",
                "cells(0) -> 0123103223103201", "find(0, 4, 0, 0, 2)", "cells(0) -> 0123123023013012",
                "find(0, 4, 0, 0, 3)", "cells(0) -> 0123130220313210");
        s.says(24, "as rows row by row, lower ones ahead,",
                "find(0, 5, 0, 0, 0)", "cells(0) -> 0123410342234013412042013", "find(0, 5, 0, 0, 1)",
                "cells(0) -> 0123410342234103402142103", "find(0, 5, 0, 0, 55)",
                "cells(0) -> 0123414320234013014242013", "find(0, 6, 0, 0, 0)",
                "cells(0) -> 012345103254234501325410450123541032", "find(0, 6, 0, 0, 9407)",
                "cells(0) -> 012345154230245103321054430521503412");
    }
}
