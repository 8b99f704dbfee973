/** Kind 2: powers. */
final class PowersTest {
    private static final int ONE = Trial.ONE;
    private static final int MOST = Trial.MOST;

    public static void main(String[] args) {
        Trial t = new Trial();
        due(t, ONE / 2, 0, ONE, 0, 3 * ONE, 5 * ONE, 5 * ONE);
        due(t, ONE / 2, 0, ONE, 1, 3 * ONE, 5 * ONE, 4 * ONE);
        due(t, ONE / 2, 0, ONE, 2, 3 * ONE, 5 * ONE, 3 * ONE + ONE / 2);
        due(t, ONE / 2, 0, ONE, 16, 0, ONE, 1);
        due(t, ONE / 2, 0, ONE, 16, 0, -ONE, -1);
        due(t, 3 * ONE, 0, 2 * ONE, 3, 0, ONE, 8 * ONE);
        due(t, -ONE, ONE / 2, ONE, 1, 0, ONE, ONE / 2);
        due(t, 9, 7, 7, 1, 0, ONE, 7);
        due(t, -3 * ONE, -9 * ONE, 0, 3, 0, ONE, -27 * ONE);
        due(t, 0, 0, ONE, 0, 4, 9, 9);
        due(t, 0, 0, ONE, 3, 4, 9, 4);
        due(t, -1, -ONE, ONE, 1, 0, ONE / 2, -1);
        due(t, -1, -ONE, ONE, 2, 0, MOST, 0);
        due(t, -3, -ONE, ONE, 3, 0, ONE, 0);
        due(t, 100, -ONE, ONE, 3, 0, ONE, 0);
        due(t, -ONE - 1, -2 * ONE, ONE, 3, 0, ONE, -ONE - 4);
        due(t, MOST, 0, MOST, 1, 0, ONE, MOST);
        due(t, MOST, 0, MOST, 2, 0, ONE, MOST);
        due(t, MOST, 0, MOST, 16, 0, 1, 16384);
        due(t, -MOST, -MOST, MOST, 15, 0, ONE, -MOST);
        due(t, -MOST, -MOST, MOST, 16, 0, ONE, MOST);
        due(t, 0, 0, ONE, 0, -MOST, MOST, 0);
        due(t, 0, 0, ONE, 0, MOST, -MOST, 0);
        due(t, 2 * ONE, 0, MOST, 1, ONE, MOST, MOST);
        due(t, 2 * ONE, 0, MOST, 1, MOST, -ONE, 0);

        t.fresh();
        t.tell(0, 2 * ONE, 2, 0, ONE, 1, 1, -5, 5, ONE, 0);
        t.due("make", t.x.make(2, 1, 4), 0);
        t.inputs(ONE + ONE / 2, 99, 99, 99);
        t.dueOutputs("four outputs", 0, 2 * ONE + ONE / 4, 1, 17, -ONE - ONE / 4);
        t.end();
    }

    private static void due(Trial t, int input, int low, int high, int n, int c, int d, int want) {
        t.fresh();
        t.tell(low, high, n, c, d);
        t.due("make", t.x.make(2, 1, 1), 0);
        t.inputs(input);
        t.dueOutputs(input + " to the " + n + " of " + low + ".." + high + ", " + c + ", " + d, 0, want);
    }
}
