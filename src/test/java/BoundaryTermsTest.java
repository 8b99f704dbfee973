import java.util.Arrays;

/** The sentences of "Terms" about numbers, the row, the telling and functions of every kind. */
final class BoundaryTermsTest {
    private static final int ONE = Trial.ONE;
    private static final int MOST = Trial.MOST;
    private static final int NONE = NumberFunctions.NONE;
    private static final int[] POWERS = {0, ONE, 1, 0, ONE};
    private static final int[] SAMPLES = {0, ONE, 1, 0, ONE, 8, 0, MOST, 0, 255 * ONE};

    public static void main(String[] args) {
        Trial t = new Trial();
        sumsAreCut(t);
        productsAndQuotientsAreCut(t);
        bitsAreCut(t);
        powersAreCut(t);
        timesRoundsDown(t);
        overRoundsDown(t);
        laidRoundsDown(t);
        laidIsCutAtTheEnd(t);
        laidFromOneNumber(t);
        rowLimit(t);
        tellingLimit(t);
        functionLimit(t);
        inputsAndOutputs(t);
        justTheNumbersSaid(t);
        droppedNumbersAreNotTold(t);
        rowAndTellingAsTheyAreThen(t);
        tellingIsEmptyThen(t);
        lowIsNotAboveHigh(t);
        t.end();
    }

    private static void sumsAreCut(Trial t) {
        t.says("what a sum .. gives beyond these is cut to them");
        t.dueOfTwo(MOST - 1, 1, "add", MOST);
        t.dueOfTwo(MOST, 1, "add", MOST);
        t.dueOfTwo(MOST, MOST, "add", MOST);
        t.dueOfTwo(-MOST + 1, -1, "add", -MOST);
        t.dueOfTwo(-MOST, -1, "add", -MOST);
        t.dueOfTwo(-MOST, -MOST, "add", -MOST);
        t.dueOfTwo(MOST - 1, -1, "sub", MOST);
        t.dueOfTwo(MOST, -1, "sub", MOST);
        t.dueOfTwo(MOST, -MOST, "sub", MOST);
        t.dueOfTwo(-MOST + 1, 1, "sub", -MOST);
        t.dueOfTwo(-MOST, 1, "sub", -MOST);
        t.dueOfTwo(-MOST, MOST, "sub", -MOST);
    }

    private static void productsAndQuotientsAreCut(Trial t) {
        t.says("what a .. product or other gives beyond these is cut to them");
        t.dueOfTwo(MOST / 2, 2 * ONE, "mul", MOST);
        t.dueOfTwo(MOST / 2 + 1, 2 * ONE, "mul", MOST);
        t.dueOfTwo(MOST, MOST, "mul", MOST);
        t.dueOfTwo(-MOST / 2, 2 * ONE, "mul", -MOST);
        t.dueOfTwo(-MOST / 2 - 1, 2 * ONE, "mul", -MOST);
        t.dueOfTwo(MOST, -MOST, "mul", -MOST);
        t.dueOfTwo(MOST, ONE, "div", MOST);
        t.dueOfTwo(MOST, ONE - 1, "div", MOST);
        t.dueOfTwo(MOST, 1, "div", MOST);
        t.dueOfTwo(-MOST, ONE - 1, "div", -MOST);
        t.dueOfTwo(MOST, -1, "div", -MOST);
        t.dueOfTwo(-MOST, -ONE, "idiv", MOST);
    }

    private static void bitsAreCut(Trial t) {
        t.says("what .. other gives beyond these is cut to them");
        t.dueOfTwo(ONE, 14 * ONE, "bitshift", MOST);
        t.dueOfTwo(ONE, 15 * ONE, "bitshift", MOST);
        t.dueOfTwo(-ONE, 14 * ONE, "bitshift", -MOST);
        t.dueOfTwo(-ONE, 15 * ONE, "bitshift", -MOST);
        t.dueOfTwo(-ONE, -ONE, "bitshift", MOST);
        t.dueOfTwo(MOST, ONE, "or", MOST);
        t.dueOfTwo(MOST, -ONE, "xor", -MOST);
        t.dueOfTwo(-MOST, -ONE, "xor", MOST - ONE);
        t.dueGivesFrom(MOST, "{not}", -MOST);
        t.dueGivesFrom(-MOST, "{not}", MOST - ONE);
    }

    private static void duePower(Trial t, int input, int n, int c, int d, int want) {
        t.fresh();
        t.tell(-MOST, MOST, n, c, d);
        t.x.make(2, 1, 1);
        t.inputs(input);
        t.dueOutputs(input + " to the " + n + " of " + c + ", " + d, 0, want);
    }

    private static void powersAreCut(Trial t) {
        t.says("what a sum, product or other gives beyond these is cut to them, in POWERS");
        duePower(t, MOST, 2, 0, 1, 16384);
        duePower(t, -MOST, 3, 0, 1, -16384);
        duePower(t, ONE / 2, 1, -MOST, MOST, -MOST / 2);
        duePower(t, ONE / 2, 1, MOST, -MOST, MOST / 2);
        duePower(t, 2 * ONE, 1, 0, MOST, MOST);
        duePower(t, 3 * ONE, 1, MOST - 1, MOST, MOST);
        duePower(t, 3 * ONE, 1, -MOST + 1, -MOST, -MOST);
    }

    private static void timesRoundsDown(Trial t) {
        t.says("a TIMES b is a b / 65536 .. rounded down");
        t.dueOfTwo(1, 1, "mul", 0);
        t.dueOfTwo(-1, 1, "mul", -1);
        t.dueOfTwo(-1, -1, "mul", 0);
        t.dueOfTwo(ONE - 1, 1, "mul", 0);
        t.dueOfTwo(ONE, 1, "mul", 1);
        t.dueOfTwo(-ONE, 1, "mul", -1);
        t.dueOfTwo(-ONE - 1, 1, "mul", -2);
        t.dueOfTwo(2 * ONE - 1, 1, "mul", 1);
    }

    private static void overRoundsDown(Trial t) {
        t.says("a OVER b is a 65536 / b .. rounded down");
        t.dueOfTwo(1, 2 * ONE, "div", 0);
        t.dueOfTwo(-1, 2 * ONE, "div", -1);
        t.dueOfTwo(1, -2 * ONE, "div", -1);
        t.dueOfTwo(-1, -2 * ONE, "div", 0);
        t.dueOfTwo(-2, 2 * ONE, "div", -1);
        t.dueOfTwo(-3, 2 * ONE, "div", -2);
        t.dueOfTwo(0, -MOST, "div", 0);
        t.dueOfTwo(1, MOST, "div", 0);
        t.dueOfTwo(1, -MOST, "div", -1);
    }

    /** Seen by a function stitched of one that gives what it is given. */
    private static void dueLaid(Trial t, int x, int p, int q, int r, int s, int want) {
        t.fresh();
        t.makeProgram("{}", 1, 1);
        t.tell(p, q, 1, 0, r, s);
        t.due("make", t.x.make(3, 1, 1), 1);
        t.inputs(x);
        t.dueOutputs(x + " from " + p + ".." + q + " to " + r + ".." + s, 1, want);
    }

    private static void laidRoundsDown(Trial t) {
        t.says("x LAID .. is r + (x - p)(s - r) / (q - p), the quotient rounded down");
        dueLaid(t, 1, 0, 2, 0, 1, 0);
        dueLaid(t, 1, 0, 2, 0, -1, -1);
        dueLaid(t, 1, 0, 2, 5, 4, 4);
        dueLaid(t, 1, 0, 2, -5, -4, -5);
        dueLaid(t, 2, 0, 2, 0, -1, -1);
        dueLaid(t, 0, 0, 2, 3, -1, 3);
        dueLaid(t, -2, -3, 0, -10, 0, -7);
        dueLaid(t, MOST - 1, -MOST, MOST, MOST, -MOST, -MOST + 1);
    }

    private static void laidIsCutAtTheEnd(Trial t) {
        t.says("cut when r is added, not before");
        dueLaid(t, MOST, -MOST, MOST, -MOST, MOST, MOST);
        dueLaid(t, MOST, -MOST, MOST, MOST, -MOST, -MOST);
        dueLaid(t, 7, 0, 8, -MOST, MOST, MOST / 4 * 3);
        dueLaid(t, 7, 0, 8, MOST, -MOST, -MOST / 4 * 3);
    }

    private static void laidFromOneNumber(Trial t) {
        t.says("r, if p is q");
        dueLaid(t, 5, 5, 5, 77, 99, 77);
        dueLaid(t, MOST, 5, 5, 77, 99, 77);
        dueLaid(t, 0, 0, 0, -MOST, MOST, -MOST);
        dueLaid(t, 0, MOST, MOST, MOST, 0, MOST);
    }

    private static void rowLimit(Trial t) {
        t.says("THE ROW has at most 8192 bytes");
        for (int i = 0; i < 409; i++) {
            t.x.feed(i, i, i, i, i);
        }
        t.due("8180 and 20 more", t.x.feed(0, 0, 0, 0, 0), NONE);
        t.due("8172 of 8180", t.x.cut(8172), 8);
        t.due("8172 and 20 more", t.x.feed(0, 0, 0, 0, 0), 8192);
        t.due("8192 and 20 more", t.x.feed(0, 0, 0, 0, 0), NONE);
        t.due("8192 of them", t.x.cut(8192), 0);
    }

    private static void tellingLimit(Trial t) {
        t.says("THE TELLING at most 96 numbers");
        for (int i = 1; i <= 96; i++) {
            t.due("number " + i, t.x.tell(i), i);
        }
        t.dueThrow("number 97", IllegalStateException.class, () -> t.x.tell(97));
        t.due("numbers", t.x.drop(), 96);
    }

    private static void functionLimit(Trial t) {
        t.says("There are at most 24 FUNCTIONS, numbered from 0 on");
        for (int i = 0; i < 24; i++) {
            t.tell(0, 0, 0, 0, i);
            t.due("function " + i, t.x.make(2, 1, 1), i);
        }
        t.tell(POWERS);
        t.dueThrow("the 25th", IllegalStateException.class, () -> t.x.make(2, 1, 1));
        for (int i = 0; i < 24; i++) {
            t.dueOutputs("function " + i, i, i);
        }
        t.due("functions", t.x.clear(), 24);
    }

    private static void inputsAndOutputs(Trial t) {
        t.says("of 1 to 4 inputs and 1 to 4 outputs");
        t.row("{}");
        for (int inputs = 1; inputs <= 4; inputs++) {
            for (int outputs = 1; outputs <= 4; outputs++) {
                t.tellWide(inputs + outputs);
                t.due(inputs + " inputs, " + outputs + " outputs", t.x.make(4, inputs, outputs),
                        4 * inputs + outputs - 5);
            }
        }
        int[][] wrong = {{0, 1}, {5, 1}, {1, 0}, {1, 5}};
        for (int[] w : wrong) {
            t.tellWide(w[0] + w[1]);
            t.dueThrow(w[0] + " inputs, " + w[1] + " outputs", IllegalArgumentException.class,
                    () -> t.x.make(4, w[0], w[1]));
        }
    }

    /** One fewer or one more is refused, whatever the number. */
    private static void dueJust(Trial t, int kind, int... numbers) {
        t.dueTold(true, kind, 1, 1, numbers);
        t.dueTold(false, kind, 1, 1, Trial.joined(numbers, new int[] {0}));
        t.dueTold(false, kind, 1, 1, Arrays.copyOf(numbers, numbers.length - 1));
        t.dueTold(false, kind, 1, 1);
    }

    private static void justTheNumbersSaid(Trial t) {
        t.says("the TELLING, which must have just the numbers said");
        t.row("{}");
        dueJust(t, 0, SAMPLES);
        dueJust(t, 2, POWERS);
        dueJust(t, 4, 0, ONE, 0, ONE);
        t.makeProgram("{}", 1, 1);
        int[][] stitched = {{0, 9, 2, 0, 0, 5, 0, 1, 0}, {0, 9, 2, 0, 0, 5, 0, 1, 0, 1, 0}, {0, 9}, {}};
        for (int[] numbers : stitched) {
            t.tell(numbers);
            t.due(numbers.length + " numbers", t.x.make(3, 1, 1), NONE);
            t.dueFault(numbers.length + " numbers", NumberFunctions.TELLING, 0);
        }
        t.tell(0, 9, 2, 0, 0, 5, 0, 1, 0, 1);
        t.due("10 numbers", t.x.make(3, 1, 1), 1);
    }

    private static void droppedNumbersAreNotTold(Trial t) {
        t.says("just the numbers said: those dropped, or of an earlier make, are not told");
        t.row("{}");
        int[] falling = new int[40];
        for (int i = 0; i < falling.length; i++) {
            falling[i] = -i;
        }
        int[][] right = {SAMPLES, POWERS, {0, ONE, 0, ONE}};
        int[] kinds = {0, 2, 4};
        for (int i = 0; i < right.length; i++) {
            t.tell(falling);
            t.dueTold(true, kinds[i], 1, 1, right[i]);
            t.dueTold(false, kinds[i], 1, 1, Arrays.copyOf(right[i], right[i].length - 1));
        }
    }

    private static void rowAndTellingAsTheyAreThen(Trial t) {
        t.says("A function is made of the TELLING .. and the row, as they are then");
        t.row(100);
        t.tell(SAMPLES);
        t.x.make(0, 1, 1);
        t.makeProgram("{pop 7}", 1, 1);
        t.tell(0, ONE, 0, 0, 5);
        t.x.make(2, 1, 1);
        t.tell(0, ONE, 1, 2, 0, ONE);
        t.x.make(3, 1, 1);
        t.x.cut(0);
        t.x.feed(-1, -1, -1, -1, -1);
        t.tell(1, 2, 3, 4, 6, 7, 8, 9, 10, 11);
        t.dueOutputs("samples", 0, 100 * ONE);
        t.dueOutputs("a program", 1, 7 * ONE);
        t.dueOutputs("powers", 2, 5);
        t.dueOutputs("stitched", 3, 5);
    }

    private static void tellingIsEmptyThen(Trial t) {
        t.says("the TELLING is empty then");
        t.row("{}");
        t.tell(SAMPLES);
        t.x.make(0, 1, 1);
        t.due("behind samples", t.x.tell(0), 1);
        t.tell(POWERS);
        t.x.make(2, 1, 1);
        t.due("behind powers", t.x.tell(0), 1);
        t.tell(0, 9, 1, 0, 0, 9);
        t.x.make(3, 1, 1);
        t.due("behind stitched", t.x.tell(0), 1);
        t.tellWide(2);
        t.x.make(4, 1, 1);
        t.due("behind a program", t.x.tell(0), 1);
        t.due("functions", t.x.clear(), 4);
    }

    private static void lowIsNotAboveHigh(Trial t) {
        t.says("Pairs low, high: low is not above high");
        t.row("{}");
        for (int low = 6; low <= 8; low++) {
            boolean right = low <= 7;
            t.dueTold(right, 0, 1, 1, low, 7, 1, 0, 0, 8, 0, 0, 0, 0);
            t.dueTold(right, 0, 1, 1, 0, 0, 1, 0, 0, 8, low, 7, 0, 0);
            t.dueTold(right, 0, 3, 1, 0, 0, 1, 0, 0, 0, 0, 1, 0, 0, low, 7, 1, 0, 0, 8, 0, 0, 0, 0);
            t.dueTold(right, 0, 1, 2, 0, 0, 1, 0, 0, 8, 0, 0, 0, 0, low, 7, 0, 0);
            t.dueTold(right, 2, 1, 1, low, 7, 1, 0, 0);
            t.dueTold(right, 4, 1, 1, low, 7, 0, 0);
            t.dueTold(right, 4, 1, 1, 0, 0, low, 7);
        }
        t.makeProgram("{}", 1, 1);
        for (int low = 6; low <= 8; low++) {
            t.tell(low, 7, 1, 0, 0, 0);
            t.due("stitched from " + low + " to 7", t.x.make(3, 1, 1), low <= 7 ? low - 5 : NONE);
        }
    }
}
