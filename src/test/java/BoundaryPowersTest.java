/** The sentences of "Terms" about functions of kind 2. */
final class BoundaryPowersTest {
    private static final int ONE = Trial.ONE;
    private static final int MOST = Trial.MOST;

    public static void main(String[] args) {
        Trial t = new Trial();
        ofOneInput(t);
        powers(t);
        anyTwoNumbers(t);
        inputIsCutToItsDomain(t);
        powerBeginsWithOne(t);
        eachProductIsRoundedAndCut(t);
        differenceAndSumAreCut(t);
        outputHasNoRange(t);
        t.end();
    }

    private static void dueOf(Trial t, int input, int[] telling, int... wanted) {
        t.fresh();
        t.tell(telling);
        t.due("make", t.x.make(2, 1, wanted.length), 0);
        t.inputs(input);
        t.dueOutputs("of " + input, 0, wanted);
    }

    private static int[] told(int... telling) {
        return telling;
    }

    private static void ofOneInput(Trial t) {
        t.says("POWERS (of one input)");
        t.tell(0, ONE, 1, 0, ONE);
        for (int inputs : new int[] {-1, 0, 2, 3, 4, 5}) {
            t.dueThrow(inputs + " inputs", IllegalArgumentException.class, () -> t.x.make(2, inputs, 1));
        }
        t.due("one input", t.x.make(2, 1, 1), 0);
        t.inputs(5, 6, 7, 8);
        t.dueOutputs("the first one", 0, 5);
    }

    private static void powers(Trial t) {
        t.says("N 0 .. 16 (as it is)");
        for (int n = -2; n <= 18; n++) {
            t.fresh();
            t.dueTold(n >= 0 && n <= 16, 2, 1, 1, 0, ONE, n, 0, ONE);
        }
        t.fresh();
        t.dueTold(false, 2, 1, 1, 0, ONE, ONE, 0, ONE);
        t.dueTold(false, 2, 1, 1, 0, ONE, MOST, 0, ONE);
        t.dueTold(false, 2, 1, 1, 0, ONE, -MOST, 0, ONE);
    }

    private static void anyTwoNumbers(Trial t) {
        t.says("for each output two numbers C, D: these are no pairs low, high");
        t.dueTold(true, 2, 1, 1, 0, ONE, 1, 1, -1);
        t.dueTold(true, 2, 1, 4, 0, ONE, 1, MOST, -MOST, 1, 0, 0, 0, -1, -2);
    }

    private static void inputIsCutToItsDomain(Trial t) {
        t.says("the input is cut to its DOMAIN");
        for (int x = -9; x <= 9; x++) {
            dueOf(t, x, told(-4, 5, 1, 0, ONE), Math.max(-4, Math.min(5, x)));
        }
        dueOf(t, MOST, told(-4, 5, 1, 0, ONE), 5);
        dueOf(t, -MOST, told(-4, 5, 1, 0, ONE), -4);
        dueOf(t, 0, told(7, 7, 1, 0, ONE), 7);
        dueOf(t, MOST, told(MOST, MOST, 1, 0, ONE), MOST);
    }

    private static void powerBeginsWithOne(Trial t) {
        t.says("P is 65,536, and N times P TIMES it");
        dueOf(t, 0, told(0, 0, 0, 3, 8), 8);
        dueOf(t, -MOST, told(-MOST, 0, 0, 3, 8), 8);
        dueOf(t, 0, told(0, 0, 1, 3, 8), 3);
        dueOf(t, ONE, told(0, ONE, 16, 3, 8), 8);
        dueOf(t, -ONE, told(-ONE, ONE, 15, 3, 8), -2);
        dueOf(t, -ONE, told(-ONE, ONE, 16, 3, 8), 8);
        int doubled = 2 * ONE;
        for (int n = 1; n <= 13; n++) {
            dueOf(t, 2 * ONE, told(0, MOST, n, 0, ONE), doubled);
            doubled *= 2;
        }
    }

    private static void eachProductIsRoundedAndCut(Trial t) {
        t.says("N times P TIMES it, each rounded down and cut");
        dueOf(t, ONE - 1, told(0, ONE, 1, 0, ONE), ONE - 1);
        dueOf(t, ONE - 1, told(0, ONE, 2, 0, ONE), ONE - 2);
        dueOf(t, ONE - 1, told(0, ONE, 16, 0, ONE), ONE - 16);
        dueOf(t, 1, told(0, ONE, 2, 0, ONE), 0);
        dueOf(t, -1, told(-ONE, ONE, 2, 0, ONE), 0);
        dueOf(t, -255, told(-ONE, ONE, 2, 0, ONE), 0);
        dueOf(t, -256, told(-ONE, ONE, 2, 0, ONE), 1);
        dueOf(t, -256, told(-ONE, ONE, 3, 0, ONE), -1);
        dueOf(t, -256, told(-ONE, ONE, 4, 0, ONE), 0);
        dueOf(t, 2 * ONE, told(0, MOST, 14, 0, ONE), MOST);
        dueOf(t, 2 * ONE, told(0, MOST, 15, 0, ONE), MOST);
        dueOf(t, 2 * ONE, told(0, MOST, 16, 0, 1), 16384);
        dueOf(t, -2 * ONE, told(-MOST, 0, 15, 0, 1), -16384);
        dueOf(t, -2 * ONE, told(-MOST, 0, 16, 0, 1), 16384);
    }

    private static void differenceAndSumAreCut(Trial t) {
        t.says("the output is C plus P TIMES (D less C)");
        dueOf(t, ONE, told(0, ONE, 1, 0, MOST), MOST);
        dueOf(t, ONE, told(0, ONE, 1, 1, -MOST), 1 - MOST);
        dueOf(t, ONE, told(0, ONE, 1, -1, MOST), MOST - 1);
        dueOf(t, ONE, told(0, ONE, 1, -MOST, MOST), 0);
        dueOf(t, ONE, told(0, ONE, 1, MOST, -MOST), 0);
        dueOf(t, 2 * ONE, told(0, MOST, 1, MOST - 1, MOST), MOST);
        dueOf(t, -2 * ONE, told(-MOST, 0, 1, 1 - MOST, MOST - 1), -MOST);
        dueOf(t, 1, told(0, ONE, 1, 0, -1), -1);
        dueOf(t, 1, told(0, ONE, 1, 0, ONE - 1), 0);
        dueOf(t, 1, told(0, ONE, 1, 10, 10 - ONE - 1), 8);
        dueOf(t, ONE / 2, told(0, ONE, 1, 5, 5), 5);
    }

    private static void outputHasNoRange(Trial t) {
        t.says("POWERS: no RANGE is told, only numbers' own bounds cut");
        dueOf(t, 3 * ONE, told(0, MOST, 2, 0, ONE, 1, 0, 0, MOST, 0, -MOST), 9 * ONE, -8, MOST, -MOST);
    }
}
