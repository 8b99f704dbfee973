/** Promise 6, and promise 7: make and clear. */
final class MakeTest {
    private static final int[] POWERS = {0, Trial.ONE, 1, 0, Trial.ONE};

    public static void main(String[] args) {
        Trial t = new Trial();
        argumentsOutOfBounds(t);
        thereAreAtMost24(t);
        tellingMustBeTheOneSaid(t);
        tellingOfSamples(t);
        tellingOfPowers(t);
        tellingOfStitched(t);
        tellingOfPrograms(t);
        rowMustHaveTheSamples(t);
        droppedNumbersDoNotCount(t);
        functionsAreOfTheRowAsItWas(t);
        refusalLeavesAll(t);
        clearing(t);
        t.end();
    }

    private static void argumentsOutOfBounds(Trial t) {
        t.fresh();
        t.tell(POWERS);
        int[][] wrong = {{-1, 1, 1}, {1, 1, 1}, {5, 1, 1}, {Integer.MAX_VALUE, 1, 1},
            {0, 0, 1}, {0, 4, 1}, {0, -1, 1}, {0, 1, 0}, {0, 1, 5}, {2, 0, 1}, {2, 2, 1}, {2, 1, 0},
            {2, 1, 5}, {3, 0, 1}, {3, 2, 1}, {3, 1, 0}, {3, 1, 5}, {4, 0, 1}, {4, 5, 1}, {4, 1, 0},
            {4, 1, 5}, {4, Integer.MIN_VALUE, 1}, {4, 1, Integer.MIN_VALUE}};
        for (int[] w : wrong) {
            t.dueThrow("make " + w[0] + " " + w[1] + " " + w[2], IllegalArgumentException.class,
                    () -> t.x.make(w[0], w[1], w[2]));
        }
        t.dueFault("nothing was made", NumberFunctions.NONE, NumberFunctions.NONE);
        t.due("the telling stays", t.x.make(2, 1, 1), 0);
        int[][] right = {{0, 3, 4}, {2, 1, 4}, {3, 1, 4}, {4, 4, 4}, {0, 1, 1}, {3, 1, 1}, {4, 1, 1}};
        for (int[] r : right) {
            t.due("make " + r[0] + " of an empty telling", t.x.make(r[0], r[1], r[2]), NumberFunctions.NONE);
            t.dueFault("make of an empty telling", NumberFunctions.TELLING, 0);
        }
    }

    private static void thereAreAtMost24(Trial t) {
        t.fresh();
        for (int i = 0; i < 24; i++) {
            t.tell(POWERS);
            t.due("function " + i, t.x.make(2, 1, 1), i);
            t.due("the telling is empty then", t.x.drop(), 0);
        }
        t.tell(POWERS);
        t.dueThrow("25 functions", IllegalStateException.class, () -> t.x.make(2, 1, 1));
        t.dueThrow("25, no such kind", IllegalArgumentException.class, () -> t.x.make(1, 1, 1));
        t.dueThrow("25, inputs", IllegalArgumentException.class, () -> t.x.make(2, 2, 1));
        t.dueThrow("25, outputs", IllegalArgumentException.class, () -> t.x.make(2, 1, 5));
        t.x.drop();
        t.dueThrow("25, of no telling", IllegalStateException.class, () -> t.x.make(2, 1, 1));
        t.dueFault("what throws is not the last make", NumberFunctions.NONE, NumberFunctions.NONE);
        t.dueThrow("call of the 25th", IndexOutOfBoundsException.class, () -> t.x.call(24));
        t.due("call of the 24th", t.x.call(23), 1);
        t.due("clear", t.x.clear(), 24);
        t.tell(POWERS);
        t.due("from 0 again", t.x.make(2, 1, 1), 0);
    }

    private static void tellingMustBeTheOneSaid(Trial t) {
        t.fresh();
        t.row("foo");
        t.dueTold(false, 4, 1, 1, 0, 1, 0);
        t.dueTold(false, 4, 1, 1, 0, 1, 0, 1, 0);
        t.dueTold(false, 4, 1, 1, 1, 0, 0, 1);
        t.x.cut(0);
        t.dueTold(false, 0, 1, 1, 0, 1, 64, 0, 1, 16, 1, 0, 0, 1);
    }

    private static void tellingOfSamples(Trial t) {
        t.fresh();
        t.row(new int[128]);
        t.dueTold(true, 0, 1, 1, 0, 1, 1, 0, 1, 8, 0, 1, 0, 1);
        t.dueTold(true, 0, 1, 1, 5, 5, 64, 9, -9, 16, 5, 5, 9, -9);
        t.dueTold(false, 0, 1, 1, 1, 0, 1, 0, 1, 8, 0, 1, 0, 1);
        t.dueTold(false, 0, 1, 1, 0, 1, 1, 0, 1, 8, 1, 0, 0, 1);
        for (int size : new int[] {0, -1, 65, Trial.ONE, Trial.MOST}) {
            t.dueTold(false, 0, 1, 1, 0, 1, size, 0, 1, 8, 0, 1, 0, 1);
        }
        for (int bits = -1; bits <= 33; bits++) {
            t.fresh();
            t.row(new int[2]);
            boolean right = bits == 1 || bits == 2 || bits == 4 || bits == 8 || bits == 12 || bits == 16;
            t.dueTold(right, 0, 1, 1, 0, 1, 1, 0, 1, bits, 0, 1, 0, 1);
        }
        t.fresh();
        t.row(new int[2]);
        t.dueTold(false, 0, 1, 1, 0, 1, 1, 0, 1, 8, 0, 1, 0);
        t.dueTold(false, 0, 1, 1, 0, 1, 1, 0, 1, 8, 0, 1, 0, 1, 0);
        t.dueTold(true, 0, 2, 2, 0, 1, 1, 0, 1, 0, 1, 1, 0, 1, 8, 0, 1, 0, 1, 0, 1, 0, 1);
        t.dueTold(false, 0, 2, 2, 0, 1, 1, 0, 1, 1, 0, 1, 0, 1, 8, 0, 1, 0, 1, 0, 1, 0, 1);
        t.dueTold(false, 0, 2, 2, 0, 1, 1, 0, 1, 0, 1, 0, 0, 1, 8, 0, 1, 0, 1, 0, 1, 0, 1);
        t.dueTold(false, 0, 2, 2, 0, 1, 1, 0, 1, 0, 1, 1, 0, 1, 8, 0, 1, 0, 1, 1, 0, 0, 1);
    }

    private static void tellingOfPowers(Trial t) {
        t.fresh();
        t.dueTold(true, 2, 1, 1, 0, 0, 0, 5, -5);
        t.dueTold(true, 2, 1, 1, -5, 0, 16, 5, -5);
        t.dueTold(false, 2, 1, 1, 1, 0, 0, 5, -5);
        t.dueTold(false, 2, 1, 1, 0, 1, -1, 5, -5);
        t.dueTold(false, 2, 1, 1, 0, 1, 17, 5, -5);
        t.dueTold(false, 2, 1, 1, 0, 1, 1, 5);
        t.dueTold(false, 2, 1, 1, 0, 1, 1, 5, -5, 0);
        t.dueTold(true, 2, 1, 4, 0, 1, 1, 1, 2, 3, 4, 5, 6, 7, 8);
        t.dueTold(false, 2, 1, 4, 0, 1, 1, 1, 2, 3, 4, 5, 6);
    }

    /** Function 0 is of one input and output, 1 of two inputs, 2 of two outputs. */
    private static void stitchOf(Trial t, boolean right, int... numbers) {
        t.fresh();
        t.makeProgram("{}", 1, 1);
        t.makeProgram("{pop}", 2, 1);
        t.makeProgram("{dup}", 1, 2);
        StringBuilder what = new StringBuilder("stitched");
        for (int number : numbers) {
            what.append(' ').append(number);
        }
        t.tell(numbers);
        t.due(what.toString(), t.x.make(3, 1, 1), right ? 3 : NumberFunctions.NONE);
        t.dueFault(what.toString(), right ? NumberFunctions.NONE : NumberFunctions.TELLING, right ? NumberFunctions.NONE : 0);
        t.due("functions", t.x.clear(), right ? 4 : 3);
    }

    private static void tellingOfStitched(Trial t) {
        stitchOf(t, true, 0, 9, 1, 0, 5, -5);
        stitchOf(t, true, 9, 9, 1, 0, 5, -5);
        stitchOf(t, false, 9, 8, 1, 0, 5, -5);
        stitchOf(t, false);
        stitchOf(t, false, 0);
        stitchOf(t, false, 0, 9);
        stitchOf(t, false, 0, 9, 1);
        stitchOf(t, false, 0, 9, 0);
        stitchOf(t, false, 0, 9, -1);
        stitchOf(t, false, 0, 9, 1, 0, 5);
        stitchOf(t, false, 0, 9, 1, 0, 5, -5, 0);
        stitchOf(t, false, 0, 9, 1, 1, 5, -5);
        stitchOf(t, false, 0, 9, 1, 2, 5, -5);
        stitchOf(t, false, 0, 9, 1, 3, 5, -5);
        stitchOf(t, false, 0, 9, 1, 24, 5, -5);
        stitchOf(t, false, 0, 9, 1, -1, 5, -5);
        stitchOf(t, true, 0, 9, 3, 0, 0, 0, 1, 8, 0, 0, 0, 0, 0, 0);
        stitchOf(t, false, 0, 9, 3, 0, 0, 0, 0, 8, 0, 0, 0, 0, 0, 0);
        stitchOf(t, false, 0, 9, 3, 0, 0, 0, 1, 9, 0, 0, 0, 0, 0, 0);
        stitchOf(t, false, 0, 9, 3, 0, 0, 0, 4, 4, 0, 0, 0, 0, 0, 0);
        stitchOf(t, false, 0, 9, 3, 0, 0, 0, 5, 4, 0, 0, 0, 0, 0, 0);
        stitchOf(t, false, 0, 9, 3, 0, 0, 2, 1, 8, 0, 0, 0, 0, 0, 0);
        stitchOf(t, false, 9, 9, 2, 0, 0, 9, 0, 0, 0, 0);
        int[] eight = {0, 9, 8, 0, 0, 0, 0, 0, 0, 0, 0, 1, 2, 3, 4, 5, 6, 7};
        stitchOf(t, true, Trial.joined(eight, new int[16]));
        int[] nine = {0, 19, 9, 0, 0, 0, 0, 0, 0, 0, 0, 0, 1, 2, 3, 4, 5, 6, 7, 8};
        stitchOf(t, false, Trial.joined(nine, new int[18]));
    }

    private static void tellingOfPrograms(Trial t) {
        t.fresh();
        t.row("{}");
        t.dueTold(true, 4, 1, 1, 0, 0, 7, 7);
        t.dueTold(false, 4, 1, 1, 0, 1, 8, 7);
        t.dueTold(false, 4, 1, 1, 1, 0, 7, 8);
        t.dueTold(false, 4, 1, 1, 0, 1);
        t.dueTold(true, 4, 4, 4, 0, 1, 0, 1, 0, 1, 0, 1, 0, 1, 0, 1, 0, 1, 0, 1);
        t.dueTold(false, 4, 4, 4, 0, 1, 0, 1, 0, 1, 1, 0, 0, 1, 0, 1, 0, 1, 0, 1);
        t.dueTold(false, 4, 4, 4, 0, 1, 0, 1, 0, 1, 0, 1, 0, 1, 0, 1, 0, 1, 1, 0);
    }

    private static void dueBytes(Trial t, int bytes, int size, int bits) {
        int[] telling = {0, 1, size, 0, 1, bits, 0, 1, 0, 1};
        t.fresh();
        t.row(new int[bytes - 1]);
        t.tell(telling);
        t.due("one byte too few", t.x.make(0, 1, 1), NumberFunctions.NONE);
        t.dueFault(size + " samples of " + bits, NumberFunctions.ROW, bytes);
        t.due("the telling stays", t.x.drop(), 10);
        t.row(new int[bytes]);
        t.tell(telling);
        t.due("just enough", t.x.make(0, 1, 1), 0);
        t.row(new int[bytes + 1]);
        t.tell(telling);
        t.due("more than enough", t.x.make(0, 1, 1), 1);
    }

    private static void rowMustHaveTheSamples(Trial t) {
        dueBytes(t, 1, 1, 1);
        dueBytes(t, 1, 8, 1);
        dueBytes(t, 2, 9, 1);
        dueBytes(t, 2, 5, 2);
        dueBytes(t, 2, 3, 4);
        dueBytes(t, 3, 3, 8);
        dueBytes(t, 2, 1, 12);
        dueBytes(t, 3, 2, 12);
        dueBytes(t, 5, 3, 12);
        dueBytes(t, 128, 64, 16);
        t.fresh();
        int[] input = {0, 1, 64, 0, 1};
        int[] output = {0, 1, 0, 1};
        t.tell(Trial.joined(input, input, input, new int[] {16}, output, output, output, output));
        t.due("the greatest table", t.x.make(0, 3, 4), NumberFunctions.NONE);
        t.dueFault("the greatest table", NumberFunctions.ROW, 64 * 64 * 64 * 4 * 2);
    }

    private static void droppedNumbersDoNotCount(Trial t) {
        int[] falling = new int[40];
        for (int i = 0; i < falling.length; i++) {
            falling[i] = -i;
        }
        t.fresh();
        t.row("{}");
        t.tell(falling);
        t.dueTold(true, 4, 1, 1, 0, 1, 0, 1);
        t.tell(falling);
        t.dueTold(true, 0, 1, 1, 0, 1, 1, 0, 1, 8, 0, 1, 0, 1);
        t.tell(falling);
        t.dueTold(true, 2, 1, 1, 0, 1, 1, 0, 1);
    }

    private static void functionsAreOfTheRowAsItWas(Trial t) {
        t.fresh();
        t.row(100);
        t.tell(0, 1, 1, 0, 0, 8, 0, Trial.MOST, 0, 255 * Trial.ONE);
        t.x.make(0, 1, 1);
        t.makeProgram("{pop 7}", 1, 1);
        t.row("{pop 99999}");
        t.dueOutputs("the byte then", 0, 100 * Trial.ONE);
        t.dueOutputs("the program then", 1, 7 * Trial.ONE);
        t.due("the row itself stays", t.x.cut(0), 11);
    }

    private static void refusalLeavesAll(Trial t) {
        t.fresh();
        t.makeProgram("{pop 1}", 1, 1);
        t.inputs(5);
        t.x.call(0);
        t.due("no program", t.makeProgram("{foo}", 1, 1), NumberFunctions.NONE);
        t.dueFault("no program", NumberFunctions.WORD, 1);
        t.due("the output stays", t.x.output(0), Trial.ONE);
        t.due("the input stays", t.x.input(0, 5), 5);
        t.due("the row stays", t.x.cut(0), 5);
        t.dueOutputs("the function stays", 0, Trial.ONE);
        t.row("{pop 2}");
        t.due("made of the same telling", t.x.make(4, 1, 1), 1);
        t.dueFault("made", NumberFunctions.NONE, NumberFunctions.NONE);
        t.dueOutputs("and it works", 1, 2 * Trial.ONE);
    }

    private static void clearing(Trial t) {
        t.fresh();
        t.due("clear of none", t.x.clear(), 0);
        t.makeProgram("{pop 3}", 1, 1);
        t.makeProgram("{pop 4}", 1, 1);
        t.x.call(1);
        t.makeProgram("{foo}", 1, 1);
        t.due("clear", t.x.clear(), 2);
        t.dueThrow("gone", IndexOutOfBoundsException.class, () -> t.x.call(0));
        t.due("the output stays", t.x.output(0), 4 * Trial.ONE);
        t.dueFault("the fault stays", NumberFunctions.WORD, 1);
        t.due("the telling stays", t.x.drop(), 4);
        t.due("the row stays", t.x.cut(0), 5);
        t.due("again", t.x.clear(), 0);
        t.tell(0, 9, 1, 0, 0, 9);
        t.due("no part is left", t.x.make(3, 1, 1), NumberFunctions.NONE);
        t.dueFault("no part is left", NumberFunctions.TELLING, 0);
    }
}
