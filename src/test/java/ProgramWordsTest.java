/** Kind 4: what each word does, and the faults it can have. */
final class ProgramWordsTest {
    private static final int ONE = Trial.ONE;
    private static final int MOST = Trial.MOST;
    private static final int EMPTY = NumberFunctions.EMPTY;
    private static final int SORT = NumberFunctions.SORT;
    private static final int WHOLE = NumberFunctions.WHOLE;
    private static final int AMOUNT = NumberFunctions.AMOUNT;
    private static final int ZERO = NumberFunctions.ZERO;

    public static void main(String[] args) {
        Trial t = new Trial();
        oneNumber(t);
        roots(t);
        twoNumbers(t);
        twoWholes(t);
        comparisons(t);
        logic(t);
        shifts(t);
        choices(t);
        wrongSorts(t);
        t.end();
    }

    private static void oneNumber(Trial t) {
        t.dueGives("3 abs -3 abs 0 abs -0.25 abs", 3 * ONE, 3 * ONE, 0, ONE / 4);
        t.dueGives("3 neg -3 neg 0 neg 0.5 neg", -3 * ONE, 3 * ONE, 0, -ONE / 2);
        t.dueGives("1.5 ceiling -1.5 ceiling 2 ceiling -2 ceiling", 2 * ONE, -ONE, 2 * ONE, -2 * ONE);
        t.dueGives("1.5 floor -1.5 floor 2 floor -2 floor", ONE, -2 * ONE, 2 * ONE, -2 * ONE);
        t.dueGives("1.5 round -1.5 round 2.49 round -2.51 round", 2 * ONE, -ONE, 2 * ONE, -3 * ONE);
        t.dueGives("0.5 round -0.5 round 2 round -2 round", ONE, 0, 2 * ONE, -2 * ONE);
        t.dueGives("1.5 truncate -1.5 truncate 2 truncate -2 truncate", ONE, -ONE, 2 * ONE, -2 * ONE);
        t.dueGives("1.5 cvi -1.5 cvi 2 cvi -0.5 cvi", ONE, -ONE, 2 * ONE, 0);
        t.dueGives("1.5 cvr -1.5 cvr 2 cvr -0.5 cvr", ONE + ONE / 2, -ONE - ONE / 2, 2 * ONE, -ONE / 2);
        for (int limit : new int[] {MOST, -MOST}) {
            for (String word : "ceiling floor round truncate cvi cvr".split(" ")) {
                t.dueGivesFrom(limit, "{" + word + "}", limit);
            }
            t.dueGivesFrom(limit, "{abs}", MOST);
            t.dueGivesFrom(limit, "{neg}", -limit);
        }
        t.dueGivesFrom(MOST - 1, "{dup ceiling exch dup round exch floor}", MOST, MOST, MOST - ONE);
        t.dueGivesFrom(-MOST + 1, "{dup ceiling exch dup round exch floor}", -MOST + ONE, -MOST, -MOST);
        t.dueGivesFrom(ONE / 2 - 1, "{round}", 0);
        t.dueGivesFrom(-ONE / 2 - 1, "{round}", -ONE);
        t.dueGivesFrom(-1, "{dup ceiling exch dup floor exch truncate}", 0, -ONE, 0);
    }

    private static void roots(Trial t) {
        t.dueGives("4 sqrt 2.25 sqrt 1 sqrt", 2 * ONE, ONE + ONE / 2, ONE);
        t.dueGivesFrom(MOST, "{sqrt}", 128 * ONE);
        for (int number : new int[] {0, 1, 2, 3, 255, 16384, ONE - 1, ONE, ONE + 1, 2 * ONE, 12345678, MOST - 1, MOST}) {
            t.fresh();
            t.makeProgram("{sqrt}", 1, 1);
            t.inputs(number);
            t.x.call(0);
            long root = t.x.output(0);
            t.due("the square of " + root + " is not above " + number, root * root >> 16 <= number ? 1 : 0, 1);
            long next = root + 1;
            t.due("the square of " + next + " is above " + number, next * next >> 16 > number ? 1 : 0, 1);
        }
        t.dueFails("{ pop -1 sqrt }", AMOUNT, 3);
        t.dueFails("{ pop -0.0001 sqrt }", AMOUNT, 3);
    }

    private static void twoNumbers(Trial t) {
        t.dueGives("3 4.5 add 3 4.5 sub -1 0.5 add", 7 * ONE + ONE / 2, -ONE - ONE / 2, -ONE / 2);
        t.dueGives("3 4.5 mul -3 4.5 mul 0 5 mul", 13 * ONE + ONE / 2, -13 * ONE - ONE / 2, 0);
        t.dueGives("9 2 div -9 2 div 9 -2 div 0 5 div", 4 * ONE + ONE / 2, -4 * ONE - ONE / 2, -4 * ONE - ONE / 2, 0);
        t.dueGives("1 3 div -1 3 div 1 -3 div -1 -3 div", 21845, -21846, -21846, 21845);
        t.dueGivesFrom(1, "{dup 0.5 mul exch dup -0.5 mul exch neg 0.5 mul}", 0, -1, -1);
        t.dueGives("16000 16000 add -16000 16000 sub 16000 2 mul -16000 2 mul", MOST, -MOST, MOST, -MOST);
        t.dueGives("16000 0.001 div -16000 0.001 div 16383.99999 -16383.99999 mul", MOST, -MOST, -MOST);
        t.dueGivesFrom(MOST, "{dup dup mul exch dup neg mul}", MOST, -MOST);
        t.dueGivesFrom(MOST, "{dup dup div exch dup neg div}", ONE, -ONE);
        t.dueGivesFrom(3, "{dup 0.00002 div exch -0.00002 div}", 3 * ONE, -3 * ONE);
        t.dueFails("{ pop 1 0 div }", ZERO, 4);
        t.dueFails("{ pop 0 0 div }", ZERO, 4);
        t.dueFails("{ pop 1 0.000001 div }", ZERO, 4);
    }

    private static void twoWholes(Trial t) {
        t.dueGives("7 2 idiv -7 2 idiv 7 -2 idiv -7 -2 idiv", 3 * ONE, -3 * ONE, -3 * ONE, 3 * ONE);
        t.dueGives("7 2 mod -7 2 mod 7 -2 mod -7 -2 mod", ONE, -ONE, ONE, -ONE);
        t.dueGives("6 3 mod 0 5 idiv 2 5 idiv 2 5 mod", 0, 0, 0, 2 * ONE);
        t.dueGivesFrom(-MOST, "{dup -1 idiv exch -1 mod}", MOST, 0);
        for (String word : new String[] {"idiv", "mod"}) {
            t.dueFails("{ pop 1 0 " + word + " }", ZERO, 4);
            t.dueFails("{ pop 1.5 0 " + word + " }", WHOLE, 4);
            t.dueFails("{ pop 1.5 1 " + word + " }", WHOLE, 4);
            t.dueFails("{ pop 1 1.5 " + word + " }", WHOLE, 4);
            t.dueFails("{ pop 1.5 true " + word + " }", SORT, 4);
            t.dueFails("{ pop true 1.5 " + word + " }", SORT, 4);
            t.dueFails("{ pop true 0 " + word + " }", SORT, 4);
        }
    }

    /** Each word's answers as digits, 1 for true, for 1 2, 2 2 and 2 1. */
    private static void comparisons(Trial t) {
        String[] rows = {"eq 010", "ne 101", "gt 001", "ge 011", "lt 100", "le 110"};
        for (String row : rows) {
            String word = row.split(" ")[0];
            String answers = row.split(" ")[1];
            String ask = " " + word + " {1}{0} ifelse ";
            t.dueGives("1 2" + ask + "2 2" + ask + "2 1" + ask, (answers.charAt(0) - '0') * ONE,
                    (answers.charAt(1) - '0') * ONE, (answers.charAt(2) - '0') * ONE);
        }
        t.dueGives("true true eq {1}{0} ifelse true false eq {1}{0} ifelse true true ne {1}{0} ifelse "
                + "false true ne {1}{0} ifelse", ONE, 0, 0, ONE);
        t.dueGives("-1 -2 gt {1}{0} ifelse -0.0001 0 lt {1}{0} ifelse", ONE, ONE);
    }

    private static void logic(Trial t) {
        String ask = " {1}{0} ifelse ";
        for (String word : new String[] {"and", "or", "xor"}) {
            int[] want = word.equals("and") ? new int[] {0, 0, 0, ONE}
                    : word.equals("or") ? new int[] {0, ONE, ONE, ONE} : new int[] {0, ONE, ONE, 0};
            t.dueGives("false false " + word + ask + "false true " + word + ask + "true false " + word + ask
                    + "true true " + word + ask, want);
            t.dueFails("{ pop true 1 " + word + " }", SORT, 4);
            t.dueFails("{ pop 1 true " + word + " }", SORT, 4);
            t.dueFails("{ pop 1.5 true " + word + " }", SORT, 4);
            t.dueFails("{ pop true 1.5 " + word + " }", SORT, 4);
            t.dueFails("{ pop 1.5 1 " + word + " }", WHOLE, 4);
            t.dueFails("{ pop 1 1.5 " + word + " }", WHOLE, 4);
            t.dueFails("{ true " + word + " }", SORT, 2);
            t.dueFails("{ pop true " + word + " }", EMPTY, 3);
        }
        t.dueGives("12 10 and 12 10 or 12 10 xor", 8 * ONE, 14 * ONE, 6 * ONE);
        t.dueGives("-1 5 and -6 3 or -1 5 xor -1 -1 and", 5 * ONE, -5 * ONE, -6 * ONE, -ONE);
        t.dueGives("true not" + ask + "false not" + ask + "5 not -1 not", 0, ONE, -6 * ONE, 0);
        t.dueGivesFrom(MOST, "{dup not exch dup 1 or exch neg 16383 xor}", -MOST, MOST, -ONE);
        t.dueGivesFrom(MOST, "{dup neg xor}", -MOST);
        t.dueFails("{ pop 1.5 not }", WHOLE, 3);
        t.dueFails("{ pop not }", EMPTY, 2);
    }

    private static void shifts(Trial t) {
        t.dueGives("1 3 bitshift 12 -2 bitshift 5 0 bitshift -5 0 bitshift", 8 * ONE, 3 * ONE, 5 * ONE, -5 * ONE);
        t.dueGives("-1 3 bitshift -1 -31 bitshift -1 -1 bitshift 1 -1 bitshift", -8 * ONE, ONE, MOST, 0);
        t.dueGives("1 14 bitshift 1 30 bitshift 1 31 bitshift 2 31 bitshift", MOST, MOST, -MOST, 0);
        t.dueGives("-1 -18 bitshift -1 -17 bitshift 3 31 bitshift 0 31 bitshift", 16383 * ONE, MOST, -MOST, 0);
        t.dueFails("{ pop 1 32 bitshift }", AMOUNT, 4);
        t.dueFails("{ pop 1 -32 bitshift }", AMOUNT, 4);
        t.dueFails("{ pop 1 16383 bitshift }", AMOUNT, 4);
        t.dueFails("{ pop 1.5 32 bitshift }", WHOLE, 4);
        t.dueFails("{ pop 1 32.5 bitshift }", WHOLE, 4);
        t.dueFails("{ pop true 32 bitshift }", SORT, 4);
        t.dueFails("{ pop 1 true bitshift }", SORT, 4);
    }

    private static void choices(Trial t) {
        t.dueGives("1 true {2} if 3 false {4} if", ONE, 2 * ONE, 3 * ONE);
        t.dueGives("true {1} {2} ifelse false {3} {4} ifelse", ONE, 4 * ONE);
        t.dueGives("true {} if false {} {7} ifelse true {8} {} ifelse", 7 * ONE, 8 * ONE);
        String nested = "{dup 0 gt {dup 1 gt {pop 3} {pop 2} ifelse} {0 eq {1} {true {9} if} ifelse} ifelse}";
        t.dueGivesFrom(2 * ONE, nested, 3 * ONE);
        t.dueGivesFrom(ONE, nested, 2 * ONE);
        t.dueGivesFrom(0, nested, ONE);
        t.dueGivesFrom(-ONE, nested, 9 * ONE);
        t.dueGives("true " + Trial.times(10, "{ true ") + "{ 5 } if" + Trial.times(10, " } if"), 5 * ONE);
        t.dueGives("1 false {0 div} if", ONE);
        t.dueFails("{ pop {1} if }", EMPTY, 5);
        t.dueFails("{ pop {1}{2} ifelse }", EMPTY, 8);
        t.dueFails("{ {1} if }", SORT, 4);
        t.dueFails("{ {1}{2} ifelse }", SORT, 7);
        t.dueFails("{ true { 1 0 div } if }", ZERO, 5);
        t.dueFails("{ false { 1 } { pop pop } ifelse }", EMPTY, 7);
        t.dueFails("{ true { pop } if pop }", EMPTY, 6);
        t.dueFails("{ false { pop } { pop } ifelse pop }", EMPTY, 9);
    }

    private static void wrongSorts(Trial t) {
        for (String word : "abs neg ceiling floor round truncate cvi cvr sqrt".split(" ")) {
            t.dueFails("{ true " + word + " }", SORT, 2);
            t.dueFails("{ pop " + word + " }", EMPTY, 2);
        }
        for (String word : "add sub mul div idiv mod gt ge lt le bitshift".split(" ")) {
            t.dueFails("{ true " + word + " }", SORT, 2);
            t.dueFails("{ true exch " + word + " }", SORT, 3);
            t.dueFails("{ true true " + word + " }", SORT, 3);
            t.dueFails("{ " + word + " }", EMPTY, 1);
            t.dueFails("{ pop true " + word + " }", EMPTY, 3);
        }
        for (String word : "eq ne".split(" ")) {
            t.dueFails("{ true " + word + " }", SORT, 2);
            t.dueFails("{ true exch " + word + " }", SORT, 3);
            t.dueFails("{ " + word + " }", EMPTY, 1);
        }
    }
}
