/** Kind 3: functions stitched of others. */
final class StitchedTest {
    private static final int ONE = Trial.ONE;
    private static final int MOST = Trial.MOST;

    public static void main(String[] args) {
        Trial t = new Trial();
        partsAndBounds(t);
        layingOut(t);
        eightParts(t);
        stitchedOfStitched(t);
        manyOutputs(t);
        faultsOfParts(t);
        t.end();
    }

    /** Each function adds its own thousand, so that both the part and what it was given show. */
    private static void threeThousands(Trial t) {
        t.fresh();
        t.makeProgram("{1000 add}", 1, 1);
        t.makeProgram("{2000 add}", 1, 1);
        t.makeProgram("{3000 add}", 1, 1);
    }

    private static void dueAt(Trial t, int f, int input, int want) {
        t.inputs(input);
        t.dueOutputs("function " + f + " of " + input, f, want);
    }

    private static void partsAndBounds(Trial t) {
        threeThousands(t);
        t.tell(0, 100, 3, 1, 0, 2, 10, 50, 0, 10, 0, 40, 0, 50);
        t.due("make", t.x.make(3, 1, 1), 3);
        dueAt(t, 3, -5, 2000 * ONE);
        dueAt(t, 3, 0, 2000 * ONE);
        dueAt(t, 3, 9, 2000 * ONE + 9);
        dueAt(t, 3, 10, 1000 * ONE);
        dueAt(t, 3, 49, 1000 * ONE + 39);
        dueAt(t, 3, 50, 3000 * ONE);
        dueAt(t, 3, 100, 3000 * ONE + 50);
        dueAt(t, 3, 101, 3000 * ONE + 50);
        dueAt(t, 3, MOST, 3000 * ONE + 50);
    }

    private static void layingOut(Trial t) {
        threeThousands(t);
        t.tell(0, 3, 1, 0, 0, 1);
        t.due("make", t.x.make(3, 1, 1), 3);
        dueAt(t, 3, 2, 1000 * ONE);
        dueAt(t, 3, 3, 1000 * ONE + 1);
        t.tell(0, 3, 1, 0, 0, -1);
        t.due("make", t.x.make(3, 1, 1), 4);
        dueAt(t, 4, 0, 1000 * ONE);
        dueAt(t, 4, 1, 1000 * ONE - 1);
        t.tell(5, 5, 1, 0, 77, 99);
        t.due("make", t.x.make(3, 1, 1), 5);
        dueAt(t, 5, 4, 1000 * ONE + 77);
        t.tell(-MOST, MOST, 2, 0, 1, 0, MOST, -MOST, -MOST, MOST);
        t.due("make", t.x.make(3, 1, 1), 6);
        dueAt(t, 6, -MOST, MOST);
        dueAt(t, 6, -1, -MOST + 2 + 1000 * ONE);
        dueAt(t, 6, 0, -MOST + 2000 * ONE);
        dueAt(t, 6, MOST / 2, 2000 * ONE);
    }

    private static void eightParts(Trial t) {
        t.fresh();
        t.makeProgram("{}", 1, 1);
        int[] head = {0, 8, 8, 0, 0, 0, 0, 0, 0, 0, 0, 1, 2, 3, 4, 5, 6, 7};
        int[] encoded = {10, 0, 11, 0, 12, 0, 13, 0, 14, 0, 15, 0, 16, 0, 17, 99};
        t.tell(Trial.joined(head, encoded));
        t.due("make", t.x.make(3, 1, 1), 1);
        for (int i = 0; i < 8; i++) {
            dueAt(t, 1, i, 10 + i);
        }
        dueAt(t, 1, 8, 99);
    }

    private static void stitchedOfStitched(Trial t) {
        t.fresh();
        t.makeProgram("{}", 1, 1);
        for (int f = 1; f < 24; f++) {
            t.tell(0, 500, 1, f - 1, 1, 501);
            t.due("make", t.x.make(3, 1, 1), f);
        }
        dueAt(t, 23, 0, 23);
        dueAt(t, 23, 77, 100);
        dueAt(t, 23, MOST, 501);
        dueAt(t, 0, 5, 5);
    }

    private static void manyOutputs(Trial t) {
        t.fresh();
        t.makeProgram("{dup dup dup}", 1, 4);
        t.tell(0, ONE, 1, 0, ONE, 1, 0, 2, 0, 3, 0);
        t.due("powers", t.x.make(2, 1, 4), 1);
        t.tell(0, 10, 2, 0, 1, 5, 0, 5, 0, 0);
        t.due("make", t.x.make(3, 1, 4), 2);
        t.inputs(4, 7, 7, 7);
        t.dueOutputs("the first part", 2, 4, 4, 4, 4);
        t.inputs(6);
        t.dueOutputs("the second part", 2, 0, 1, 2, 3);
    }

    private static void faultsOfParts(Trial t) {
        t.fresh();
        t.makeProgram("{}", 1, 1);
        t.makeProgram("{ dup 0 div }", 1, 1);
        t.makeProgram("{ 1 }", 1, 1);
        t.tell(0, 30, 3, 0, 1, 2, 10, 20, 0, 0, 0, 0, 0, 0);
        t.due("make", t.x.make(3, 1, 1), 3);
        t.tell(0, 30, 1, 3, 0, 30);
        t.due("make", t.x.make(3, 1, 1), 4);
        t.inputs(10);
        t.due("a fault in the second part", t.x.call(4), NumberFunctions.NONE);
        t.dueFault("of that program", NumberFunctions.ZERO, 3);
        t.inputs(20);
        t.due("a fault in the third part", t.x.call(4), NumberFunctions.NONE);
        t.dueFault("of that program's end", NumberFunctions.COUNT, 3);
        t.inputs(0);
        t.dueOutputs("no fault in the first", 4, 0);
    }
}
