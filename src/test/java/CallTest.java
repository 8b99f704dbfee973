/** Promises 8 to 11: input, call, output and fault. */
final class CallTest {
    public static void main(String[] args) {
        Trial t = new Trial();
        inputs(t);
        calls(t);
        outputs(t);
        faults(t);
        t.end();
    }

    private static void inputs(Trial t) {
        t.fresh();
        for (int i = 0; i < 4; i++) {
            t.due("before", t.x.input(i, Trial.MOST - i), 0);
        }
        for (int i = 0; i < 4; i++) {
            t.due("greatest", t.x.input(i, -Trial.MOST + i), Trial.MOST - i);
        }
        for (int i : new int[] {-1, 4, Integer.MAX_VALUE, Integer.MIN_VALUE}) {
            t.dueThrow("input " + i, IllegalArgumentException.class, () -> t.x.input(i, 0));
        }
        for (int n : new int[] {Trial.MOST + 1, -Trial.MOST - 1, Integer.MAX_VALUE, Integer.MIN_VALUE}) {
            t.dueThrow("number " + n, IllegalArgumentException.class, () -> t.x.input(0, n));
        }
        for (int i = 0; i < 4; i++) {
            t.due("as before", t.x.input(i, 0), -Trial.MOST + i);
        }
    }

    private static void calls(Trial t) {
        t.fresh();
        t.dueThrow("none yet", IndexOutOfBoundsException.class, () -> t.x.call(0));
        t.makeProgram("{}", 1, 1);
        t.makeProgram("{}", 4, 4);
        t.inputs(1, 2, 3, 4);
        for (int f : new int[] {-1, 2, 24, Integer.MAX_VALUE, Integer.MIN_VALUE}) {
            t.dueThrow("call " + f, IndexOutOfBoundsException.class, () -> t.x.call(f));
        }
        t.dueOutputs("the first input only", 0, 1);
        t.dueOutputs("all inputs", 1, 1, 2, 3, 4);
        t.due("inputs stay", t.x.input(0, 9), 1);
        t.dueOutputs("of the new input", 1, 9, 2, 3, 4);
        t.tell(-Trial.MOST, Trial.MOST, 1, 0, 5, 5);
        t.due("stitched", t.x.make(3, 1, 1), 2);
        t.dueOutputs("stitched", 2, 5);
        t.due("inputs stay behind a stitched one", t.x.input(0, 9), 9);
    }

    private static void outputs(Trial t) {
        t.fresh();
        for (int i = 0; i < 4; i++) {
            t.due("none yet", t.x.output(i), 0);
        }
        for (int i : new int[] {-1, 4, Integer.MAX_VALUE, Integer.MIN_VALUE}) {
            t.dueThrow("output " + i, IllegalArgumentException.class, () -> t.x.output(i));
        }
        t.makeProgram("{}", 4, 4);
        t.makeProgram("{dup}", 1, 2);
        t.makeProgram("{pop pop}", 1, 1);
        t.makeProgram("{9 true}", 1, 3);
        t.inputs(11, 12, 13, 14);
        t.dueOutputs("four", 0, 11, 12, 13, 14);
        t.dueOutputs("two, and no other's", 1, 11, 11);
        t.x.call(0);
        t.due("a fault", t.x.call(2), NumberFunctions.NONE);
        t.due("a fault at the end", t.x.call(3), NumberFunctions.NONE);
        t.dueThrow("no call", IndexOutOfBoundsException.class, () -> t.x.call(9));
        for (int i = 0; i < 4; i++) {
            t.due("of the last that went through", t.x.output(i), 11 + i);
        }
    }

    private static void faults(Trial t) {
        t.fresh();
        for (int what = -2; what <= 3; what++) {
            t.due("none yet", t.x.fault(what), NumberFunctions.NONE);
        }
        t.makeProgram("{}", 1, 1);
        t.makeProgram("{ pop 1 0 div }", 1, 1);
        t.x.call(1);
        t.dueFault("a call", NumberFunctions.ZERO, 4);
        for (int what : new int[] {-1, 2, 14, Integer.MAX_VALUE, Integer.MIN_VALUE}) {
            t.due("no such what", t.x.fault(what), NumberFunctions.NONE);
        }
        t.dueThrow("call", IndexOutOfBoundsException.class, () -> t.x.call(2));
        t.dueThrow("make", IllegalArgumentException.class, () -> t.x.make(1, 1, 1));
        t.dueThrow("tell", IllegalArgumentException.class, () -> t.x.tell(Integer.MAX_VALUE));
        t.x.clear();
        t.x.drop();
        t.x.cut(0);
        t.x.input(0, 1);
        t.x.output(0);
        t.dueFault("what is no make or call leaves it", NumberFunctions.ZERO, 4);
        t.makeProgram("{}", 1, 1);
        t.dueFault("a make that went through", NumberFunctions.NONE, NumberFunctions.NONE);
        t.makeProgram("{ foo}", 1, 1);
        t.dueFault("a make", NumberFunctions.WORD, 2);
        t.dueOutputs("a call that goes through", 0, 1);
    }
}
