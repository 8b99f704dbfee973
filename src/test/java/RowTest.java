/** Promises 2 and 3: feed and cut. */
final class RowTest {
    public static void main(String[] args) {
        Trial t = new Trial();
        bytesComeHighestFirst(t);
        rowHasItsLimit(t);
        cutLeavesTheFirst(t);
        t.end();
    }

    /** Seen by a table of 20 samples of 8 bits, whose outputs are the bytes themselves. */
    private static void bytesComeHighestFirst(Trial t) {
        t.fresh();
        t.due("feed", t.x.feed(0x01020304, 0x05060708, 0x090A0B0C, 0x0D0E0F10, 0xFFFEFDFC), 20);
        int last = 19 * Trial.ONE;
        t.tell(0, last, 20, 0, last, 8, 0, Trial.MOST, 0, 255 * Trial.ONE);
        t.due("make", t.x.make(0, 1, 1), 0);
        for (int i = 0; i < 20; i++) {
            t.inputs(i * Trial.ONE);
            t.dueOutputs("byte " + i, 0, (i < 16 ? i + 1 : 271 - i) * Trial.ONE);
        }
        t.due("feed more", t.x.feed(0, 0, 0, 0, 0), 40);
    }

    private static void rowHasItsLimit(Trial t) {
        t.fresh();
        for (int i = 1; i <= 409; i++) {
            t.due("feed " + i, t.x.feed(i, 0, 0, 0, 0), 20 * i);
        }
        t.due("one feed too many", t.x.feed(0, 0, 0, 0, 0), NumberFunctions.NONE);
        t.due("nothing happened", t.x.cut(8173), 7);
        t.due("one byte too many", t.x.feed(0, 0, 0, 0, 0), NumberFunctions.NONE);
        t.due("cut to what still fits", t.x.cut(8172), 1);
        t.due("just 8192", t.x.feed(0, 0, 0, 0, 0), 8192);
        t.due("none behind them", t.x.feed(0, 0, 0, 0, 0), NumberFunctions.NONE);
        t.due("all", t.x.cut(0), 8192);
        t.due("room again", t.x.feed(0, 0, 0, 0, 0), 20);
    }

    private static void cutLeavesTheFirst(Trial t) {
        t.fresh();
        t.x.feed(0x11223344, 0, 0, 0, 0);
        t.due("more than there are", t.x.cut(21), 0);
        t.due("as many as there are", t.x.cut(20), 0);
        t.due("far more", t.x.cut(Integer.MAX_VALUE), 0);
        t.due("some", t.x.cut(3), 17);
        t.dueThrow("below 0", IllegalArgumentException.class, () -> t.x.cut(-1));
        t.dueThrow("far below 0", IllegalArgumentException.class, () -> t.x.cut(Integer.MIN_VALUE));
        t.due("three are left", t.x.feed(0xAABBCCDD, 0, 0, 0, 0), 23);
        int last = 3 * Trial.ONE;
        t.tell(0, last, 4, 0, last, 8, 0, Trial.MOST, 0, 255 * Trial.ONE);
        t.x.make(0, 1, 1);
        t.inputs(2 * Trial.ONE);
        t.dueOutputs("the third stays", 0, 0x33 * Trial.ONE);
        t.inputs(3 * Trial.ONE);
        t.dueOutputs("the fourth is new", 0, 0xAA * Trial.ONE);
        t.due("none", t.x.cut(0), 23);
        t.due("none of none", t.x.cut(0), 0);
    }
}
