/** Promises 4 and 5: tell and drop. */
final class TellingTest {
    public static void main(String[] args) {
        Trial t = new Trial();
        t.due("the least", t.x.tell(-Trial.MOST), 1);
        t.due("the greatest", t.x.tell(Trial.MOST), 2);
        for (int number : new int[] {Trial.MOST + 1, -Trial.MOST - 1, Integer.MAX_VALUE, Integer.MIN_VALUE}) {
            t.dueThrow("tell " + number, IllegalArgumentException.class, () -> t.x.tell(number));
        }
        t.due("those were not told", t.x.tell(0), 3);
        t.due("drop", t.x.drop(), 3);
        t.due("drop of none", t.x.drop(), 0);
        for (int i = 1; i <= 96; i++) {
            t.due("tell " + i, t.x.tell(i), i);
        }
        t.dueThrow("97 numbers", IllegalStateException.class, () -> t.x.tell(0));
        t.dueThrow("97, and no number", IllegalArgumentException.class, () -> t.x.tell(Trial.MOST + 1));
        t.due("drop all", t.x.drop(), 96);
        t.due("from the beginning", t.x.tell(5), 1);
        t.x.clear();
        t.x.cut(0);
        t.due("others leave it alone", t.x.drop(), 1);

        t.tell(0, Trial.ONE, 1, 10, 20);
        t.x.drop();
        t.tell(0, Trial.ONE, 0, 30, 40);
        t.due("make", t.x.make(2, 1, 1), 0);
        t.dueOutputs("the numbers dropped are gone", 0, 40);
        t.end();
    }
}
