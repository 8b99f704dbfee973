/** The sentences of "Terms" about what the words of a program, kind 4, do with numbers and truths. */
final class BoundaryWordsTest {
    private static final int ONE = Trial.ONE;
    private static final int MOST = Trial.MOST;
    private static final int SORT = NumberFunctions.SORT;
    private static final int WHOLE = NumberFunctions.WHOLE;
    private static final int AMOUNT = NumberFunctions.AMOUNT;
    private static final int ZERO = NumberFunctions.ZERO;
    private static final String ASK = " {1}{0} ifelse ";

    public static void main(String[] args) {
        Trial t = new Trial();
        absAndNeg(t);
        ceilingAndFloor(t);
        round(t);
        truncate(t);
        nothing(t);
        roots(t);
        rootsOfLess(t);
        sumsAndProducts(t);
        divisionByZero(t);
        wholeDivision(t);
        wholeDivisionByZero(t);
        equality(t);
        order(t);
        logicOfTruths(t);
        logicOfWholes(t);
        negation(t);
        shiftBounds(t);
        shiftsAreFilledWithZero(t);
        ifDoesIt(t);
        ifelseDoesOne(t);
        t.end();
    }

    private static void dueOne(Trial t, String word, int... inputsAndWanted) {
        for (int i = 0; i + 1 < inputsAndWanted.length; i += 2) {
            t.dueGivesFrom(inputsAndWanted[i], "{" + word + "}", inputsAndWanted[i + 1]);
        }
    }

    private static void absAndNeg(Trial t) {
        t.says("abs neg");
        dueOne(t, "abs", 0, 0, 1, 1, -1, 1, MOST, MOST, -MOST, MOST, MOST - 1, MOST - 1, 1 - MOST, MOST - 1);
        dueOne(t, "neg", 0, 0, 1, -1, -1, 1, MOST, -MOST, -MOST, MOST, MOST - 1, 1 - MOST, 1 - MOST, MOST - 1);
    }

    private static void ceilingAndFloor(Trial t) {
        t.says("ceiling floor");
        dueOne(t, "ceiling", 0, 0, 1, ONE, -1, 0, ONE - 1, ONE, ONE, ONE, ONE + 1, 2 * ONE, -ONE, -ONE, 1 - ONE, 0,
                -ONE - 1, -ONE, MOST, MOST, MOST - 1, MOST, -MOST, -MOST, 1 - MOST, ONE - MOST);
        dueOne(t, "floor", 0, 0, 1, 0, -1, -ONE, ONE - 1, 0, ONE, ONE, ONE + 1, ONE, -ONE, -ONE, 1 - ONE, -ONE,
                -ONE - 1, -2 * ONE, MOST, MOST, MOST - 1, MOST - ONE, -MOST, -MOST, 1 - MOST, -MOST);
    }

    private static void round(Trial t) {
        t.says("round (up from the half on)");
        int half = ONE / 2;
        dueOne(t, "round", 0, 0, half - 1, 0, half, ONE, half + 1, ONE, ONE + half - 1, ONE, ONE + half, 2 * ONE);
        dueOne(t, "round", -half + 1, 0, -half, 0, -half - 1, -ONE, -ONE - half, -ONE, -ONE - half - 1, -2 * ONE);
        dueOne(t, "round", MOST, MOST, MOST - 1, MOST, MOST - half, MOST, MOST - half - 1, MOST - ONE);
        dueOne(t, "round", -MOST, -MOST, half - 1 - MOST, -MOST, half - MOST, ONE - MOST);
    }

    private static void truncate(Trial t) {
        t.says("truncate (to 0) cvi (as truncate)");
        for (String word : new String[] {"truncate", "cvi"}) {
            dueOne(t, word, 0, 0, 1, 0, -1, 0, ONE - 1, 0, 1 - ONE, 0, ONE, ONE, -ONE, -ONE, 2 * ONE - 1, ONE,
                    1 - 2 * ONE, -ONE, MOST, MOST, MOST - 1, MOST - ONE, -MOST, -MOST, 1 - MOST, ONE - MOST);
        }
    }

    private static void nothing(Trial t) {
        t.says("cvr (nothing)");
        dueOne(t, "cvr", 0, 0, 1, 1, -1, -1, ONE / 2, ONE / 2, MOST, MOST, -MOST, -MOST);
        t.dueFails("{ pop true cvr }", SORT, 3);
    }

    private static void roots(Trial t) {
        t.says("sqrt (the greatest number whose square, TIMES itself, is not above it");
        dueOne(t, "sqrt", 0, 255, 1, 362, 2, 443, ONE, ONE, 4 * ONE, 2 * ONE, ONE / 4, ONE / 2);
        dueOne(t, "sqrt", MOST, 128 * ONE, MOST - 1, 128 * ONE - 1, MOST - 256, 128 * ONE - 1);
        for (int a : new int[] {3, 255, 256, 257, ONE - 1, ONE + 1, 2 * ONE, 1000003, 77777777, MOST - 255, MOST - 257}) {
            long root = (long) Math.sqrt((double) a * ONE) - 3;
            while ((root + 1) * (root + 1) / ONE <= a) {
                root++;
            }
            dueOne(t, "sqrt", a, (int) root);
        }
    }

    private static void rootsOfLess(Trial t) {
        t.says("of less than 0: AMOUNT");
        for (int a : new int[] {-1, -ONE, -MOST}) {
            t.fresh();
            t.makeProgram("{sqrt}", 1, 1);
            t.inputs(a);
            t.due("sqrt of " + a, t.x.call(0), NumberFunctions.NONE);
            t.dueFault("sqrt of " + a, AMOUNT, 1);
        }
    }

    private static void sumsAndProducts(Trial t) {
        t.says("add sub mul (TIMES) div (OVER");
        t.dueOfTwo(3, 5, "add", 8);
        t.dueOfTwo(3, 5, "sub", -2);
        t.dueOfTwo(3 * ONE, 5, "mul", 15);
        t.dueOfTwo(3, 5 * ONE, "div", 0);
        t.dueOfTwo(15, 5 * ONE, "div", 3);
        t.dueOfTwo(-16, 5 * ONE, "div", -4);
    }

    private static void divisionByZero(Trial t) {
        t.says("div (OVER; by 0: ZERO)");
        for (int a : new int[] {0, 1, -1, MOST, -MOST}) {
            t.dueFailsOfTwo(a, 0, "div", ZERO);
        }
        t.dueOfTwo(0, 1, "div", 0);
        t.dueOfTwo(0, -1, "div", 0);
        t.dueOfTwo(1, 1, "div", ONE);
        t.dueOfTwo(1, -1, "div", -ONE);
    }

    private static void wholeDivision(Trial t) {
        t.says("idiv, mod: two whole ones, to 0, with the sign of the first");
        int[][] rows = {{7, 2, 3, 1}, {-7, 2, -3, -1}, {7, -2, -3, 1}, {-7, -2, 3, -1}, {6, 3, 2, 0}, {-6, 3, -2, 0},
            {0, 5, 0, 0}, {0, -5, 0, 0}, {4, 5, 0, 4}, {-4, 5, 0, -4}, {4, -5, 0, 4}, {-4, -5, 0, -4}, {5, 1, 5, 0},
            {5, -1, -5, 0}, {16384, 16384, 1, 0}, {-16384, 16384, -1, 0}, {16384, -1, -16384, 0}, {-16384, -1, 16384, 0},
            {16384, 16383, 1, 1}, {-16384, 16383, -1, -1}, {1, 16384, 0, 1}, {-1, 16384, 0, -1}};
        for (int[] row : rows) {
            t.dueOfTwo(row[0] * ONE, row[1] * ONE, "idiv", row[2] * ONE);
            t.dueOfTwo(row[0] * ONE, row[1] * ONE, "mod", row[3] * ONE);
        }
        for (String word : new String[] {"idiv", "mod"}) {
            t.dueFailsOfTwo(ONE + 1, ONE, word, WHOLE);
            t.dueFailsOfTwo(ONE, ONE + 1, word, WHOLE);
            t.dueFailsOfTwo(ONE, ONE - 1, word, WHOLE);
            t.dueFailsOfTwo(-1, ONE, word, WHOLE);
            t.dueFailsOfTwo(ONE, -1, word, WHOLE);
            t.dueFailsOfTwo(MOST - 1, 1 - MOST, word, WHOLE);
        }
    }

    private static void wholeDivisionByZero(Trial t) {
        t.says("(by 0: ZERO, behind WHOLE)");
        for (String word : new String[] {"idiv", "mod"}) {
            t.dueFailsOfTwo(0, 0, word, ZERO);
            t.dueFailsOfTwo(ONE, 0, word, ZERO);
            t.dueFailsOfTwo(-MOST, 0, word, ZERO);
            t.dueFailsOfTwo(1, 0, word, WHOLE);
            t.dueFailsOfTwo(-1, 0, word, WHOLE);
            t.dueFailsOfTwo(ONE / 2, 0, word, WHOLE);
        }
    }

    private static void dueTruth(Trial t, int a, int b, String word, boolean truth) {
        t.dueOfTwo(a, b, word + ASK, truth ? ONE : 0);
    }

    private static void equality(Trial t) {
        t.says("eq ne (two of one sort): a truth");
        int[][] pairs = {{0, 0}, {0, 1}, {1, 0}, {-1, 1}, {MOST, MOST}, {MOST, MOST - 1}, {-MOST, MOST}, {ONE, ONE}};
        for (int[] pair : pairs) {
            dueTruth(t, pair[0], pair[1], "eq", pair[0] == pair[1]);
            dueTruth(t, pair[0], pair[1], "ne", pair[0] != pair[1]);
        }
        t.dueGives("true true eq" + ASK + "true false eq" + ASK + "false true eq" + ASK + "false false eq" + ASK,
                ONE, 0, 0, ONE);
        t.dueGives("true true ne" + ASK + "true false ne" + ASK + "false true ne" + ASK + "false false ne" + ASK,
                0, ONE, ONE, 0);
        for (String word : new String[] {"eq", "ne"}) {
            t.dueFails("{ pop 1 true " + word + " }", SORT, 4);
            t.dueFails("{ pop true 1 " + word + " }", SORT, 4);
            t.dueFails("{ pop 0 false " + word + " }", SORT, 4);
            t.dueFails("{ pop false 0 " + word + " }", SORT, 4);
            t.dueFails("{ pop 1 1 " + word + " }", SORT, 6);
        }
    }

    private static void order(Trial t) {
        t.says("gt ge lt le (numbers): a truth");
        int[][] pairs = {{0, 0}, {0, 1}, {1, 0}, {-1, 0}, {0, -1}, {MOST, -MOST}, {-MOST, MOST}, {MOST, MOST},
            {MOST, MOST - 1}, {-MOST, 1 - MOST}};
        for (int[] pair : pairs) {
            dueTruth(t, pair[0], pair[1], "gt", pair[0] > pair[1]);
            dueTruth(t, pair[0], pair[1], "ge", pair[0] >= pair[1]);
            dueTruth(t, pair[0], pair[1], "lt", pair[0] < pair[1]);
            dueTruth(t, pair[0], pair[1], "le", pair[0] <= pair[1]);
        }
        for (String word : new String[] {"gt", "ge", "lt", "le"}) {
            t.dueFails("{ pop true true " + word + " }", SORT, 4);
            t.dueFails("{ pop true 1 " + word + " }", SORT, 4);
            t.dueFails("{ pop 1 true " + word + " }", SORT, 4);
            t.dueFails("{ pop 1 1 " + word + " }", SORT, 6);
        }
    }

    private static void logicOfTruths(Trial t) {
        t.says("and or xor (two truths");
        String[] rows = {"and 0001", "or 0111", "xor 0110"};
        String[] pairs = {"false false ", "false true ", "true false ", "true true "};
        for (String row : rows) {
            String word = row.split(" ")[0];
            for (int i = 0; i < 4; i++) {
                t.dueGives(pairs[i] + word + ASK, (row.split(" ")[1].charAt(i) - '0') * ONE);
            }
            t.dueFails("{ pop true true " + word + " }", SORT, 6);
        }
        t.says("two truths, or two whole numbers: not one of each");
        for (String word : new String[] {"and", "or", "xor"}) {
            t.dueFails("{ pop true 1 " + word + " }", SORT, 4);
            t.dueFails("{ pop 1 true " + word + " }", SORT, 4);
            t.dueFails("{ pop false 0.5 " + word + " }", SORT, 4);
            t.dueFails("{ pop 0.5 false " + word + " }", SORT, 4);
        }
    }

    private static void logicOfWholes(Trial t) {
        t.says("or two whole numbers, as 32 bits of their whole parts, the result with sign");
        int[] wholes = {0, 1, -1, 2, -2, 5, 12, 16383, -16383, 16384, -16384};
        for (int a : wholes) {
            for (int b : wholes) {
                t.dueOfTwo(a * ONE, b * ONE, "and", cut(a & b));
                t.dueOfTwo(a * ONE, b * ONE, "or", cut(a | b));
                t.dueOfTwo(a * ONE, b * ONE, "xor", cut(a ^ b));
            }
        }
        for (String word : new String[] {"and", "or", "xor"}) {
            t.dueFailsOfTwo(1, ONE, word, WHOLE);
            t.dueFailsOfTwo(ONE, 1, word, WHOLE);
            t.dueFailsOfTwo(-1, 0, word, WHOLE);
            t.dueFailsOfTwo(0, MOST - 1, word, WHOLE);
        }
    }

    private static int cut(long whole) {
        return (int) Math.max(-MOST, Math.min(MOST, whole * ONE));
    }

    private static void negation(Trial t) {
        t.says("not (one; likewise)");
        t.dueGives("true not" + ASK + "false not" + ASK, 0, ONE);
        dueOne(t, "not", 0, -ONE, -ONE, 0, ONE, -2 * ONE, 16383 * ONE, -MOST, MOST, -MOST, -MOST, 16383 * ONE);
        for (int a : new int[] {1, -1, ONE + 1, MOST - 1, 1 - MOST}) {
            t.fresh();
            t.makeProgram("{not}", 1, 1);
            t.inputs(a);
            t.due("not of " + a, t.x.call(0), NumberFunctions.NONE);
            t.dueFault("not of " + a, WHOLE, 1);
        }
        t.dueFails("{ pop true not }", SORT, 5);
    }

    private static void shiftBounds(Trial t) {
        t.says("bitshift: whole a, whole n -31 .. 31 (AMOUNT)");
        for (int n : new int[] {32, -32, 33, -33, 64, -64, 16384, -16384}) {
            t.dueFailsOfTwo(ONE, n * ONE, "bitshift", AMOUNT);
        }
        t.dueOfTwo(ONE, 31 * ONE, "bitshift", -MOST);
        t.dueOfTwo(ONE, -31 * ONE, "bitshift", 0);
        t.dueOfTwo(-ONE, -31 * ONE, "bitshift", ONE);
        t.dueFailsOfTwo(1, ONE, "bitshift", WHOLE);
        t.dueFailsOfTwo(ONE, 1, "bitshift", WHOLE);
        t.dueFailsOfTwo(ONE, 31 * ONE + 1, "bitshift", WHOLE);
        t.dueFailsOfTwo(ONE, 32 * ONE + 1, "bitshift", WHOLE);
        t.dueFailsOfTwo(1, 32 * ONE, "bitshift", WHOLE);
        t.dueFailsOfTwo(ONE, -32 * ONE - 1, "bitshift", WHOLE);
    }

    private static void shiftsAreFilledWithZero(Trial t) {
        t.says("the 32 bits of a to the left, for n below 0 to the right, filled with 0");
        int[] wholes = {0, 1, -1, 3, -3, 5, 255, -256, 16383, 16384, -16384};
        for (int a : wholes) {
            for (int n = 0; n <= 31; n++) {
                t.dueOfTwo(a * ONE, n * ONE, "bitshift", cut(a << n));
                t.dueOfTwo(a * ONE, -n * ONE, "bitshift", cut(a >>> n));
            }
        }
    }

    private static void ifDoesIt(Trial t) {
        t.says("if: a truth; what stands before is done if it is true");
        t.dueGives("1 true {pop 2} if", 2 * ONE);
        t.dueGives("1 false {pop 2} if", ONE);
        t.dueGives("1 true {} if", ONE);
        t.dueGives("1 false {} if", ONE);
        t.dueGives("1 false {0 div} if", ONE);
        t.dueGives("1 false {pop pop pop} if 2 add", 3 * ONE);
        t.dueFails("{ 1 {2} if }", SORT, 5);
        t.dueFails("{ 0 {2} if }", SORT, 5);
        t.dueFails("{ pop {2} if }", NumberFunctions.EMPTY, 5);
        t.dueGives("true false {pop 5 true} if {7} if", 7 * ONE);
        String inmost = Trial.times(10, "true { ") + "true { 5 } if" + Trial.times(10, " } if");
        t.dueGives(inmost, 5 * ONE);
        t.dueGives("4 " + inmost.replaceFirst("true", "false"), 4 * ONE);
    }

    private static void ifelseDoesOne(Trial t) {
        t.says("ifelse: the first or the second");
        t.dueGives("true {1} {2} ifelse", ONE);
        t.dueGives("false {1} {2} ifelse", 2 * ONE);
        t.dueGives("true {1} {} ifelse", ONE);
        t.dueGives("false {} {2} ifelse", 2 * ONE);
        t.dueGives("9 true {} {0 div} ifelse false {0 div} {} ifelse", 9 * ONE);
        t.dueGives("9 true {1 add} {2 add} ifelse 10 mul", 100 * ONE);
        t.dueGives("9 false {2 add} {1 add} ifelse 10 mul", 100 * ONE);
        t.dueFails("{ 1 {2} {3} ifelse }", SORT, 8);
        t.dueFails("{ pop {2} {3} ifelse }", NumberFunctions.EMPTY, 8);
        t.dueFails("{ true {2} {} ifelse }", NumberFunctions.COUNT, 9);
        t.dueGives("true {false {1} {2} ifelse} {true {3} {4} ifelse} ifelse", 2 * ONE);
        t.dueGives("false {false {1} {2} ifelse} {true {3} {4} ifelse} ifelse", 3 * ONE);
    }
}
