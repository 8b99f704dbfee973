/** Kind 4: the stack, its limits, and what it must have at the end. */
final class ProgramStackTest {
    private static final int ONE = Trial.ONE;
    private static final int MOST = Trial.MOST;
    private static final int FULL = NumberFunctions.FULL;
    private static final int EMPTY = NumberFunctions.EMPTY;
    private static final int SORT = NumberFunctions.SORT;
    private static final int WHOLE = NumberFunctions.WHOLE;
    private static final int AMOUNT = NumberFunctions.AMOUNT;
    private static final int COUNT = NumberFunctions.COUNT;

    public static void main(String[] args) {
        Trial t = new Trial();
        moves(t);
        copies(t);
        indexes(t);
        rolls(t);
        full(t);
        theEnd(t);
        cutInputsAndOutputs(t);
        t.end();
    }

    private static void moves(Trial t) {
        t.dueGives("1 2 pop 3", ONE, 3 * ONE);
        t.dueGives("1 2 exch", 2 * ONE, ONE);
        t.dueGives("1 2 dup", ONE, 2 * ONE, 2 * ONE);
        t.dueGives("1 true {2}if", ONE, 2 * ONE);
        t.dueGives("true 5 exch {2}if", 5 * ONE, 2 * ONE);
        t.dueGives("true dup {1}if exch {2}if", ONE, 2 * ONE);
        t.dueFails("{ pop pop }", EMPTY, 2);
        t.dueFails("{ exch }", EMPTY, 1);
        t.dueFails("{ pop exch }", EMPTY, 2);
        t.dueFails("{ pop dup }", EMPTY, 2);
    }

    private static void copies(Trial t) {
        t.dueGives("1 2 2 copy", ONE, 2 * ONE, ONE, 2 * ONE);
        t.dueGives("1 2 1 copy", ONE, 2 * ONE, 2 * ONE);
        t.dueGives("1 2 0 copy", ONE, 2 * ONE);
        t.dueGives("1 true 2 copy {3}if 3 -1 roll {4}if", ONE, ONE, 3 * ONE, 4 * ONE);
        t.dueGives("0 copy 7", 7 * ONE);
        t.dueFails("{ pop copy }", EMPTY, 2);
        t.dueFails("{ true copy }", SORT, 2);
        t.dueFails("{ 0.5 copy }", WHOLE, 2);
        t.dueFails("{ -0.5 copy }", WHOLE, 2);
        t.dueFails("{ -1 copy }", AMOUNT, 2);
        t.dueFails("{ 2 copy }", EMPTY, 2);
        t.dueFails("{ 16383 copy }", EMPTY, 2);
        t.dueFails("{ pop 1 copy }", EMPTY, 3);
        t.dueFails("{ pop -1 copy }", AMOUNT, 3);
    }

    private static void indexes(Trial t) {
        t.dueGives("1 2 0 index", ONE, 2 * ONE, 2 * ONE);
        t.dueGives("1 2 1 index", ONE, 2 * ONE, ONE);
        t.dueGives("true 2 1 index {3}if 3 -1 roll {4}if", 2 * ONE, 3 * ONE, 4 * ONE);
        t.dueFails("{ pop index }", EMPTY, 2);
        t.dueFails("{ true index }", SORT, 2);
        t.dueFails("{ 0.5 index }", WHOLE, 2);
        t.dueFails("{ -1 index }", AMOUNT, 2);
        t.dueFails("{ -1.5 index }", WHOLE, 2);
        t.dueFails("{ 1 index }", EMPTY, 2);
        t.dueFails("{ 16383 index }", EMPTY, 2);
        t.dueFails("{ pop 0 index }", EMPTY, 3);
        t.dueFails("{ pop true index }", SORT, 3);
        t.dueFails("{ pop 0.5 index }", WHOLE, 3);
        t.dueFails("{ pop -1 index }", AMOUNT, 3);
    }

    private static void rolls(Trial t) {
        t.dueGives("9 1 2 3 3 1 roll", 9 * ONE, 3 * ONE, ONE, 2 * ONE);
        t.dueGives("9 1 2 3 3 -1 roll", 9 * ONE, 2 * ONE, 3 * ONE, ONE);
        t.dueGives("9 1 2 3 3 2 roll", 9 * ONE, 2 * ONE, 3 * ONE, ONE);
        t.dueGives("9 1 2 3 3 0 roll", 9 * ONE, ONE, 2 * ONE, 3 * ONE);
        t.dueGives("9 1 2 3 3 3 roll", 9 * ONE, ONE, 2 * ONE, 3 * ONE);
        t.dueGives("9 1 2 3 3 16381 roll", 9 * ONE, 3 * ONE, ONE, 2 * ONE);
        t.dueGives("9 1 2 3 3 -16381 roll", 9 * ONE, 2 * ONE, 3 * ONE, ONE);
        t.dueGives("9 1 2 3 4 1 roll", 3 * ONE, 9 * ONE, ONE, 2 * ONE);
        t.dueGives("1 2 0 5 roll", ONE, 2 * ONE);
        t.dueGives("1 2 1 5 roll", ONE, 2 * ONE);
        t.dueGives("0 0 roll 7", 7 * ONE);
        t.dueGives("1 2 true 3 1 roll 3 -1 roll {3}if", ONE, 2 * ONE, 3 * ONE);
        t.dueFails("{ roll }", EMPTY, 1);
        t.dueFails("{ pop true roll }", EMPTY, 3);
        t.dueFails("{ true 1 roll }", SORT, 3);
        t.dueFails("{ 1 true roll }", SORT, 3);
        t.dueFails("{ 0.5 true roll }", SORT, 3);
        t.dueFails("{ 0.5 1 roll }", WHOLE, 3);
        t.dueFails("{ 1 0.5 roll }", WHOLE, 3);
        t.dueFails("{ -1 0.5 roll }", WHOLE, 3);
        t.dueFails("{ -1 1 roll }", AMOUNT, 3);
        t.dueFails("{ 2 1 roll }", EMPTY, 3);
        t.dueFails("{ 16383 1 roll }", EMPTY, 3);
    }

    /** The input is the first of the values. */
    private static String filledTo(int many) {
        return "{" + Trial.times(many - 1, "1 ");
    }

    private static void full(Trial t) {
        String down = Trial.times(59, "pop ") + "}";
        t.dueGivesFrom(7, filledTo(60) + down, 7);
        t.dueGivesFrom(7, filledTo(59) + "dup " + down, 7);
        t.dueGivesFrom(7, filledTo(59) + "true " + down, 7);
        t.dueGivesFrom(7, filledTo(60) + "exch copy " + down, 7);
        t.dueGivesFrom(7, filledTo(60) + "index " + down, 7);
        t.dueGivesFrom(7, filledTo(30) + "30 copy " + down, 7);
        t.dueGivesFrom(7, filledTo(59) + "1 copy " + down, 7);
        t.dueFails(filledTo(60) + "1}", FULL, 60);
        t.dueFails(filledTo(60) + "true}", FULL, 60);
        t.dueFails(filledTo(60) + "false}", FULL, 60);
        t.dueFails(filledTo(60) + "dup}", FULL, 60);
        t.dueFails(filledTo(30) + "1 30 copy}", FULL, 32);
        t.dueFails(filledTo(59) + "2 copy}", FULL, 60);
        t.dueFails(filledTo(59) + "60 copy}", EMPTY, 60);
    }

    private static void theEnd(Trial t) {
        t.dueFails("{ 1 }", COUNT, 3);
        t.dueFails("{ pop }", COUNT, 3);
        t.dueFails("{ true }", COUNT, 3);
        t.dueFails("{ pop true }", SORT, 4);
        t.dueFails("{ pop true {true} if }", SORT, 8);
        t.fresh();
        t.makeProgram("{ true }", 1, 2);
        t.makeProgram("{ true exch }", 1, 2);
        t.makeProgram("{ }", 1, 2);
        t.x.call(0);
        t.dueFault("the upper one is a truth", SORT, 3);
        t.x.call(1);
        t.dueFault("the lower one is a truth", SORT, 4);
        t.x.call(2);
        t.dueFault("too few", COUNT, 2);
    }

    private static void cutInputsAndOutputs(Trial t) {
        t.fresh();
        t.row("{2 copy}");
        t.tell(-5, 5, 10, 20, -MOST, MOST, -3, MOST, 4, 4, 0, 15);
        t.due("make", t.x.make(4, 2, 4), 0);
        t.inputs(9, 9);
        t.dueOutputs("cut both ways", 0, 5, 10, 4, 10);
        t.inputs(-9, 99);
        t.dueOutputs("cut both ways", 0, -5, 20, 4, 15);
        t.inputs(2, 12);
        t.dueOutputs("nothing to cut but one", 0, 2, 12, 4, 12);
        t.fresh();
        t.makeProgram("{}", 4, 4);
        t.inputs(MOST, -MOST, 3, 4);
        t.dueOutputs("the last input on top, the last output too", 0, MOST, -MOST, 3, 4);
    }
}
