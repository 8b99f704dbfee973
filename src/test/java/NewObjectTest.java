/** Promise 1. */
final class NewObjectTest {
    public static void main(String[] args) {
        Trial t = new Trial();
        t.due("no bytes", t.x.cut(0), 0);
        t.fresh();
        t.due("no numbers told", t.x.drop(), 0);
        t.fresh();
        t.due("no functions", t.x.clear(), 0);
        t.fresh();
        t.dueThrow("no function 0", IndexOutOfBoundsException.class, () -> t.x.call(0));
        for (int i = 0; i < 4; i++) {
            t.due("input " + i, t.x.input(i, 7), 0);
            t.due("output " + i, t.x.output(i), 0);
        }
        t.fresh();
        t.dueFault("nothing made or called", NumberFunctions.NONE, NumberFunctions.NONE);

        NumberFunctions other = t.x;
        t.x.tell(1);
        t.x.feed(1, 2, 3, 4, 5);
        t.x.input(0, 9);
        t.fresh();
        t.due("its own telling", t.x.drop(), 0);
        t.due("its own row", t.x.cut(0), 0);
        t.due("its own inputs", t.x.input(0, 0), 0);
        t.due("the other's telling", other.drop(), 1);
        t.due("the other's row", other.cut(0), 20);
        t.due("the other's inputs", other.input(0, 0), 9);
        t.end();
    }
}
