import java.util.Arrays;

/** The sentences of "Terms" about functions of kind 3. */
final class BoundaryStitchedTest {
    private static final int ONE = Trial.ONE;
    private static final int MOST = Trial.MOST;
    private static final int NONE = NumberFunctions.NONE;

    public static void main(String[] args) {
        Trial t = new Trial();
        ofOneInput(t);
        parts(t);
        functionsThatThereAre(t);
        partsOfOneInput(t);
        partsWithAsManyOutputs(t);
        boundsAboveLow(t);
        boundsAboveTheOneBefore(t);
        boundsBelowHigh(t);
        encodedAreAnyNumbers(t);
        inputIsCutToTheDomain(t);
        firstBoundAbove(t);
        laidFromThePartsEnds(t);
        givenToItsFunction(t);
        t.end();
    }

    /** Behind functions of one input and one output, how a telling of a stitched one fares. */
    private static void dueTold(Trial t, boolean right, int functions, int... numbers) {
        t.fresh();
        t.row("{}");
        for (int f = 0; f < functions; f++) {
            t.tellWide(2);
            t.due("function " + f, t.x.make(4, 1, 1), f);
        }
        t.tell(numbers);
        String what = "stitched of " + Arrays.toString(numbers);
        t.due(what, t.x.make(3, 1, 1), right ? functions : NONE);
        t.dueFault(what, right ? NONE : NumberFunctions.TELLING, right ? NONE : 0);
        t.due(what + ": left in the telling", t.x.drop(), right ? 0 : numbers.length);
        t.due(what + ": functions", t.x.clear(), right ? functions + 1 : functions);
    }

    private static void ofOneInput(Trial t) {
        t.says("STITCHED (of one input)");
        t.makeProgram("{}", 1, 1);
        t.tell(-MOST, MOST, 1, 0, -MOST, MOST);
        for (int inputs : new int[] {-1, 0, 2, 3, 4, 5}) {
            t.dueThrow(inputs + " inputs", IllegalArgumentException.class, () -> t.x.make(3, inputs, 1));
        }
        t.due("one input", t.x.make(3, 1, 1), 1);
        t.inputs(5, 6, 7, 8);
        t.dueOutputs("the first one", 1, 5);
    }

    /** K parts of function 0, bounds 1, 2, .. below high. */
    private static int[] ofParts(int k, int high) {
        int[] numbers = new int[3 + k + k - 1 + 2 * k];
        numbers[1] = high;
        numbers[2] = k;
        for (int i = 1; i < k; i++) {
            numbers[3 + k + i - 1] = i;
        }
        return numbers;
    }

    private static void parts(Trial t) {
        t.says("K 1 .. 8 (as it is)");
        for (int k = 1; k <= 10; k++) {
            dueTold(t, k <= 8, 1, ofParts(k, 99));
        }
        dueTold(t, false, 1, 0, 9, 0);
        dueTold(t, false, 1, 0, 9, 0, 0, 0, 0);
        dueTold(t, false, 1, 0, 9, -1);
        dueTold(t, false, 1, 0, 9, ONE, 0, 0, 0);
        dueTold(t, false, 1, 0, 9, MOST, 0, 0, 0);
        dueTold(t, false, 1, 0, 9, -MOST, 0, 0, 0);
        t.says("K numbers of functions .., K - 1 BOUNDS, .. 2 K numbers ENCODED");
        for (int k = 1; k <= 8; k++) {
            int[] just = ofParts(k, 99);
            dueTold(t, false, 1, Trial.joined(just, new int[1]));
            dueTold(t, false, 1, Arrays.copyOf(just, just.length - 1));
        }
    }

    private static void functionsThatThereAre(Trial t) {
        t.says("K numbers of functions that there are");
        dueTold(t, false, 0, 0, 9, 1, 0, 0, 9);
        dueTold(t, true, 1, 0, 9, 1, 0, 0, 9);
        dueTold(t, false, 1, 0, 9, 1, 1, 0, 9);
        dueTold(t, false, 1, 0, 9, 1, -1, 0, 9);
        dueTold(t, true, 2, 0, 9, 1, 1, 0, 9);
        dueTold(t, false, 2, 0, 9, 1, 2, 0, 9);
        dueTold(t, true, 23, 0, 9, 1, 22, 0, 9);
        dueTold(t, false, 23, 0, 9, 1, 23, 0, 9);
        dueTold(t, false, 23, 0, 9, 1, 24, 0, 9);
        dueTold(t, false, 1, 0, 9, 1, MOST, 0, 9);
        dueTold(t, false, 1, 0, 9, 1, -MOST, 0, 9);
        dueTold(t, false, 2, 0, 9, 1, ONE, 0, 9);
        dueTold(t, false, 1, 0, 9, 2, 0, 1, 5, 0, 9, 0, 9);
        dueTold(t, false, 1, 0, 9, 2, 1, 0, 5, 0, 9, 0, 9);
        dueTold(t, true, 1, 0, 9, 2, 0, 0, 5, 0, 9, 0, 9);
        t.says("functions that there are: those that are cleared are not");
        t.makeProgram("{}", 1, 1);
        t.makeProgram("{}", 1, 1);
        t.x.clear();
        t.makeProgram("{}", 1, 1);
        t.tell(0, 9, 1, 1, 0, 9);
        t.due("of one that is gone", t.x.make(3, 1, 1), NONE);
        t.dueFault("of one that is gone", NumberFunctions.TELLING, 0);
    }

    private static void partsOfOneInput(Trial t) {
        t.says("of one input");
        for (int inputs = 2; inputs <= 4; inputs++) {
            t.fresh();
            t.makeProgram("{}", 1, 1);
            t.makeProgram("{}", inputs, 1);
            t.tell(0, 9, 1, 1, 0, 9);
            t.due("of " + inputs + " inputs", t.x.make(3, 1, 1), NONE);
            t.dueFault("of " + inputs + " inputs", NumberFunctions.TELLING, 0);
            t.tell(0, 9, 2, 0, 1, 5, 0, 9, 0, 9);
            t.due("the second of " + inputs + " inputs", t.x.make(3, 1, 1), NONE);
            t.dueFault("the second of " + inputs + " inputs", NumberFunctions.TELLING, 0);
        }
        t.fresh();
        t.row(1);
        int[] input = {0, 0, 1, 0, 0};
        t.tell(Trial.joined(input, input, new int[] {8, 0, 0, 0, 0}));
        t.due("samples of two inputs", t.x.make(0, 2, 1), 0);
        t.tell(0, 9, 1, 0, 0, 9);
        t.due("of samples of two inputs", t.x.make(3, 1, 1), NONE);
    }

    private static void partsWithAsManyOutputs(Trial t) {
        t.says("with as many outputs");
        String[] programs = {"{}", "{dup}", "{dup dup}", "{dup dup dup}"};
        for (int outputs = 1; outputs <= 4; outputs++) {
            t.fresh();
            for (int f = 0; f < 4; f++) {
                t.makeProgram(programs[f], 1, f + 1);
            }
            for (int f = 0; f < 4; f++) {
                t.tell(0, 9, 1, f, 0, 9);
                boolean right = f + 1 == outputs;
                String what = outputs + " outputs of a function with " + (f + 1);
                t.due(what, t.x.make(3, 1, outputs), right ? 4 : NONE);
                t.dueFault(what, right ? NONE : NumberFunctions.TELLING, right ? NONE : 0);
            }
            t.tell(0, 9, 2, outputs - 1, outputs % 4, 5, 0, 9, 0, 9);
            t.due("the second with others", t.x.make(3, 1, outputs), NONE);
            t.dueFault("the second with others", NumberFunctions.TELLING, 0);
        }
    }

    private static void boundsAboveLow(Trial t) {
        t.says("K - 1 BOUNDS, each above low");
        dueTold(t, false, 1, 3, 9, 2, 0, 0, 2, 0, 0, 0, 0);
        dueTold(t, false, 1, 3, 9, 2, 0, 0, 3, 0, 0, 0, 0);
        dueTold(t, true, 1, 3, 9, 2, 0, 0, 4, 0, 0, 0, 0);
        dueTold(t, false, 1, -MOST, MOST, 2, 0, 0, -MOST, 0, 0, 0, 0);
        dueTold(t, true, 1, -MOST, MOST, 2, 0, 0, 1 - MOST, 0, 0, 0, 0);
        dueTold(t, false, 1, 9, 9, 2, 0, 0, 9, 0, 0, 0, 0);
        dueTold(t, false, 1, 9, 10, 2, 0, 0, 9, 0, 0, 0, 0);
        dueTold(t, false, 1, 9, 10, 2, 0, 0, 10, 0, 0, 0, 0);
        dueTold(t, true, 1, 9, 11, 2, 0, 0, 10, 0, 0, 0, 0);
    }

    private static void boundsAboveTheOneBefore(Trial t) {
        t.says("each above .. the one before");
        dueTold(t, false, 1, 0, 9, 3, 0, 0, 0, 5, 4, 0, 0, 0, 0, 0, 0);
        dueTold(t, false, 1, 0, 9, 3, 0, 0, 0, 5, 5, 0, 0, 0, 0, 0, 0);
        dueTold(t, true, 1, 0, 9, 3, 0, 0, 0, 5, 6, 0, 0, 0, 0, 0, 0);
        dueTold(t, false, 1, 0, 9, 4, 0, 0, 0, 0, 2, 5, 4, 0, 0, 0, 0, 0, 0, 0, 0);
        dueTold(t, true, 1, 0, 9, 4, 0, 0, 0, 0, 2, 5, 6, 0, 0, 0, 0, 0, 0, 0, 0);
        int[] eight = ofParts(8, 99);
        eight[17] = eight[16];
        dueTold(t, false, 1, eight);
        eight[17] = eight[16] + 1;
        dueTold(t, true, 1, eight);
    }

    private static void boundsBelowHigh(Trial t) {
        t.says("and below high");
        dueTold(t, true, 1, 0, 9, 2, 0, 0, 8, 0, 0, 0, 0);
        dueTold(t, false, 1, 0, 9, 2, 0, 0, 9, 0, 0, 0, 0);
        dueTold(t, false, 1, 0, 9, 2, 0, 0, 10, 0, 0, 0, 0);
        dueTold(t, false, 1, 0, 9, 3, 0, 0, 0, 5, 9, 0, 0, 0, 0, 0, 0);
        dueTold(t, false, 1, 0, 9, 3, 0, 0, 0, 9, 10, 0, 0, 0, 0, 0, 0);
        dueTold(t, true, 1, 0, MOST, 2, 0, 0, MOST - 1, 0, 0, 0, 0);
        dueTold(t, false, 1, 0, MOST, 2, 0, 0, MOST, 0, 0, 0, 0);
        dueTold(t, true, 1, 0, 8, 8, 0, 0, 0, 0, 0, 0, 0, 0, 1, 2, 3, 4, 5, 6, 7, 0, 0, 0, 0, 0, 0, 0, 0, 0, 0, 0, 0, 0,
                0, 0, 0);
        dueTold(t, false, 1, ofParts(8, 7));
    }

    private static void encodedAreAnyNumbers(Trial t) {
        t.says("2 K numbers ENCODED: these are no pairs low, high");
        dueTold(t, true, 1, 0, 9, 2, 0, 0, 5, 1, -1, MOST, -MOST);
    }

    private static void dueAt(Trial t, int f, int input, int want) {
        t.inputs(input);
        t.dueOutputs("function " + f + " of " + input, f, want);
    }

    private static void inputIsCutToTheDomain(Trial t) {
        t.says("The input is cut to the DOMAIN");
        t.makeProgram("{}", 1, 1);
        t.tell(-5, 5, 1, 0, -5, 5);
        t.x.make(3, 1, 1);
        dueAt(t, 1, -MOST, -5);
        dueAt(t, 1, -6, -5);
        dueAt(t, 1, -5, -5);
        dueAt(t, 1, -4, -4);
        dueAt(t, 1, 4, 4);
        dueAt(t, 1, 5, 5);
        dueAt(t, 1, 6, 5);
        dueAt(t, 1, MOST, 5);
        t.tell(-5, 5, 2, 0, 0, 0, -5, 0, 0, 5);
        t.x.make(3, 1, 1);
        dueAt(t, 2, -6, -5);
        dueAt(t, 2, 6, 5);
    }

    /** Each part adds its own hundred, so that it shows. */
    private static void firstBoundAbove(Trial t) {
        t.says("the part it is in is the first whose BOUND is above it, else the last one");
        t.makeProgram("{100 add}", 1, 1);
        t.makeProgram("{200 add}", 1, 1);
        t.makeProgram("{300 add}", 1, 1);
        t.tell(0, 30, 3, 0, 1, 2, 10, 20, 0, 0, 0, 0, 0, 0);
        t.x.make(3, 1, 1);
        int[] inputs = {0, 9, 10, 11, 19, 20, 21, 29, 30, 31};
        int[] hundreds = {1, 1, 2, 2, 2, 3, 3, 3, 3, 3};
        for (int i = 0; i < inputs.length; i++) {
            dueAt(t, 3, inputs[i], hundreds[i] * 100 * ONE);
        }
        t.tell(4, 4, 1, 2, 7, 8);
        t.x.make(3, 1, 1);
        dueAt(t, 4, 4, 300 * ONE + 7);
        t.tell(0, 2, 2, 1, 0, 1, 0, 0, 0, 0);
        t.x.make(3, 1, 1);
        dueAt(t, 5, 0, 200 * ONE);
        dueAt(t, 5, 1, 100 * ONE);
        dueAt(t, 5, 2, 100 * ONE);
    }

    private static void laidFromThePartsEnds(Trial t) {
        t.says("it is LAID from the part's ends (low, BOUNDS, high) to its two ENCODED");
        t.makeProgram("{}", 1, 1);
        t.tell(-10, 30, 3, 0, 0, 0, 0, 20, 1000, 2000, 4000, 3000, 50, 70);
        t.x.make(3, 1, 1);
        dueAt(t, 1, -10, 1000);
        dueAt(t, 1, -9, 1100);
        dueAt(t, 1, -1, 1900);
        dueAt(t, 1, 0, 4000);
        dueAt(t, 1, 19, 3050);
        dueAt(t, 1, 20, 50);
        dueAt(t, 1, 29, 68);
        dueAt(t, 1, 30, 70);
        t.tell(0, 3, 1, 0, 0, -1);
        t.x.make(3, 1, 1);
        dueAt(t, 2, 1, -1);
        dueAt(t, 2, 0, 0);
        t.tell(8, 8, 1, 0, 21, 22);
        t.x.make(3, 1, 1);
        dueAt(t, 3, 8, 21);
        t.tell(-MOST, MOST, 2, 0, 0, 1 - MOST, -MOST, MOST, MOST, -MOST);
        t.x.make(3, 1, 1);
        dueAt(t, 4, -MOST, -MOST);
        dueAt(t, 4, 1 - MOST, MOST);
        dueAt(t, 4, MOST, -MOST);
    }

    private static void givenToItsFunction(Trial t) {
        t.says("and given to its function, which cuts it to its own DOMAIN");
        t.tell(-3, 3, 1, 0, ONE);
        t.x.make(2, 1, 1);
        t.tell(0, 9, 1, 0, -9, 9);
        t.x.make(3, 1, 1);
        dueAt(t, 1, 0, -3);
        dueAt(t, 1, 9, 3);
        dueAt(t, 1, 5, 1);
        t.due("the input stays", t.x.input(0, 0), 5);
        t.says("given to its function, as many as 23 in one another");
        t.makeProgram("{}", 1, 1);
        for (int f = 1; f < 24; f++) {
            t.tell(-MOST, MOST, 1, f - 1, MOST, -MOST);
            t.due("function " + f, t.x.make(3, 1, 1), f);
        }
        dueAt(t, 23, 5, -5);
        dueAt(t, 22, 5, 5);
        dueAt(t, 23, MOST, -MOST);
    }
}
