/** The sentences of promises 1 to 11, and what holds for all of them: a call that throws changes nothing. */
final class BoundaryPromisesTest {
    private static final int ONE = Trial.ONE;
    private static final int MOST = Trial.MOST;
    private static final int NONE = NumberFunctions.NONE;
    private static final int[] NO_NUMBERS = {MOST + 1, -MOST - 1, Integer.MAX_VALUE, Integer.MIN_VALUE};
    private static final int[] POWERS = {-MOST, MOST, 1, 0, ONE};

    public static void main(String[] args) {
        Trial t = new Trial();
        newObject(t);
        feeding(t);
        feedingTooMany(t);
        cutting(t);
        cuttingBelowZero(t);
        telling(t);
        tellingNoNumber(t);
        tellingTooMany(t);
        dropping(t);
        making(t);
        makingNone(t);
        tellingFirst(t);
        rowPlace(t);
        numberToShape(t);
        tellingAndFunctionsStay(t);
        makingOutOfBounds(t);
        makingTooMany(t);
        clearing(t);
        inputting(t);
        inputtingOutOfBounds(t);
        calling(t);
        callingWithAFault(t);
        callingNoFunction(t);
        outputs(t);
        outputsOutOfBounds(t);
        faults(t);
        faultsOfAnotherWhat(t);
        throwingChangesNothing(t);
        firstExceptionWins(t);
        t.end();
    }

    private static void newObject(Trial t) {
        t.says("An empty row and telling, no functions; all inputs 0");
        t.due("the row", t.x.cut(0), 0);
        t.fresh();
        t.due("the first feed", t.x.feed(0, 0, 0, 0, 0), 20);
        t.fresh();
        t.tellWide(2);
        t.due("a program of it", t.x.make(4, 1, 1), NONE);
        t.dueFault("a program of it", NumberFunctions.SHAPE, 0);
        t.fresh();
        t.due("the telling", t.x.drop(), 0);
        t.fresh();
        t.due("the first number", t.x.tell(7), 1);
        t.fresh();
        t.due("functions", t.x.clear(), 0);
        t.fresh();
        t.dueThrow("function 0", IndexOutOfBoundsException.class, () -> t.x.call(0));
        for (int i = 0; i < 4; i++) {
            t.due("input " + i, t.x.input(i, 9), 0);
        }
        t.fresh();
        t.makeProgram("{}", 4, 4);
        t.dueOutputs("all inputs", 0, 0, 0, 0, 0);
    }

    private static void dueFirstByte(Trial t, int want) {
        t.tell(0, 0, 1, 0, 0, 8, 0, MOST, 0, 255);
        int f = t.x.make(0, 1, 1);
        t.dueOutputs("the first byte", f, want);
    }

    private static void feeding(Trial t) {
        t.says("Twenty bytes more in the row, the highest of a first: how many it has");
        t.due("once", t.x.feed(0x81020304, 0x05060708, 0x090A0B0C, 0x0D0E0F10, 0x111213F4), 20);
        t.due("twice", t.x.feed(-1, -2, 0, Integer.MAX_VALUE, Integer.MIN_VALUE), 40);
        int last = 39 * ONE;
        t.tell(0, last, 40, 0, last, 8, 0, MOST, 0, 255);
        t.due("make", t.x.make(0, 1, 1), 0);
        int[] bytes = {0x81, 2, 3, 4, 5, 6, 7, 8, 9, 10, 11, 12, 13, 14, 15, 16, 17, 18, 19, 0xF4, 255, 255, 255, 255,
            255, 255, 255, 254, 0, 0, 0, 0, 127, 255, 255, 255, 128, 0, 0, 0};
        for (int i = 0; i < bytes.length; i++) {
            t.inputs(i * ONE);
            t.dueOutputs("byte " + i, 0, bytes[i]);
        }
    }

    private static void feedingTooMany(Trial t) {
        t.says("NONE (and nothing happens) if there would be more than 8192");
        for (int i = 1; i <= 409; i++) {
            t.due("feed " + i, t.x.feed(0x07000000, 0, 0, 0, 0), 20 * i);
        }
        t.due("8200", t.x.feed(-1, -1, -1, -1, -1), NONE);
        t.due("8200 again", t.x.feed(-1, -1, -1, -1, -1), NONE);
        t.dueFault("it is no make or call", NONE, NONE);
        t.due("8180 stay", t.x.cut(8180), 0);
        t.due("the last seven", t.x.cut(8173), 7);
        t.due("8193", t.x.feed(-1, -1, -1, -1, -1), NONE);
        t.due("8173 stay", t.x.cut(8172), 1);
        t.due("8192", t.x.feed(-1, -1, -1, -1, -1), 8192);
        t.due("8212", t.x.feed(0, 0, 0, 0, 0), NONE);
        t.due("8192 stay", t.x.cut(8192), 0);
        dueFirstByte(t, 7);
        t.due("to the last one", t.x.cut(1), 8191);
        t.due("room again", t.x.feed(0, 0, 0, 0, 0), 21);
    }

    private static void cutting(Trial t) {
        t.says("Only the first bytes of the row are left (all, if it has fewer): how many are gone");
        t.due("of none", t.x.cut(0), 0);
        t.due("of none", t.x.cut(5), 0);
        t.x.feed(0x01020304, 0, 0, 0, 0);
        t.due("it has fewer", t.x.cut(21), 0);
        t.due("far fewer", t.x.cut(Integer.MAX_VALUE), 0);
        t.due("just as many", t.x.cut(20), 0);
        t.due("one", t.x.cut(19), 1);
        t.due("all but one", t.x.cut(1), 18);
        dueFirstByte(t, 1);
        t.due("new ones behind it", t.x.feed(0x55000000, 0, 0, 0, 0), 21);
        t.tell(0, ONE, 2, 0, ONE, 8, 0, MOST, 0, 255);
        t.x.make(0, 1, 1);
        t.inputs(ONE);
        t.dueOutputs("the second byte", 1, 0x55);
        t.due("all", t.x.cut(0), 21);
        t.due("none are left", t.x.cut(0), 0);
    }

    private static void cuttingBelowZero(Trial t) {
        t.says("IllegalArgument: many is below 0");
        t.x.feed(1, 2, 3, 4, 5);
        for (int many : new int[] {-1, -20, -21, Integer.MIN_VALUE}) {
            t.dueThrow("cut " + many, IllegalArgumentException.class, () -> t.x.cut(many));
        }
        t.due("20 stay", t.x.cut(0), 20);
        t.dueThrow("cut -1 of none", IllegalArgumentException.class, () -> t.x.cut(-1));
    }

    private static void telling(Trial t) {
        t.says("A number more in the TELLING: how many it has");
        int[] numbers = {-MOST, 1 - MOST, -1, 0, 1, MOST - 1, MOST};
        for (int i = 0; i < numbers.length; i++) {
            t.due("tell " + numbers[i], t.x.tell(numbers[i]), i + 1);
        }
        t.fresh();
        t.tell(-MOST, MOST, 0, 1 - MOST, MOST);
        t.due("make", t.x.make(2, 1, 1), 0);
        t.dueOutputs("the numbers are those", 0, 1);
        t.due("the first behind a make", t.x.tell(3), 1);
    }

    private static void tellingNoNumber(Trial t) {
        t.says("IllegalArgument: it is not -2^30 .. 2^30");
        t.x.tell(5);
        for (int number : NO_NUMBERS) {
            t.dueThrow("tell " + number, IllegalArgumentException.class, () -> t.x.tell(number));
        }
        t.due("the next one", t.x.tell(6), 2);
    }

    private static void tellingTooMany(Trial t) {
        t.says("IllegalState: there are 96");
        for (int i = 1; i <= 96; i++) {
            t.due("number " + i, t.x.tell(i), i);
        }
        t.dueThrow("number 97", IllegalStateException.class, () -> t.x.tell(0));
        t.dueThrow("number 97 again", IllegalStateException.class, () -> t.x.tell(MOST));
        t.due("96 numbers are TELLING for all", t.x.make(2, 1, 1), NONE);
        t.dueFault("96 numbers are TELLING for all", NumberFunctions.TELLING, 0);
        t.due("96 stay", t.x.drop(), 96);
        t.due("room again", t.x.tell(0), 1);
    }

    private static void dropping(Trial t) {
        t.says("The TELLING is empty; how many numbers it had");
        t.due("of none", t.x.drop(), 0);
        t.x.tell(5);
        t.due("of one", t.x.drop(), 1);
        t.due("of none again", t.x.drop(), 0);
        t.due("it is empty", t.x.tell(7), 1);
        t.x.drop();
        t.due("a make of it", t.x.make(2, 1, 1), NONE);
        t.dueFault("a make of it", NumberFunctions.TELLING, 0);
        for (int i = 0; i < 96; i++) {
            t.x.tell(i);
        }
        t.due("of 96", t.x.drop(), 96);
        t.due("of none", t.x.drop(), 0);
    }

    private static void making(Trial t) {
        t.says("A function of a KIND 0, 2, 3, 4: its number");
        t.row("{}");
        t.tell(0, 0, 1, 0, 0, 8, 0, 0, 0, 0);
        t.due("samples", t.x.make(0, 1, 1), 0);
        t.dueFault("samples", NONE, NONE);
        t.tell(POWERS);
        t.due("powers", t.x.make(2, 1, 1), 1);
        t.dueFault("powers", NONE, NONE);
        t.tell(0, 9, 1, 1, 0, 9);
        t.due("stitched", t.x.make(3, 1, 1), 2);
        t.dueFault("stitched", NONE, NONE);
        t.tellWide(2);
        t.due("a program", t.x.make(4, 1, 1), 3);
        t.dueFault("a program", NONE, NONE);
        t.due("functions", t.x.clear(), 4);
    }

    private static void makingNone(Trial t) {
        t.says("NONE if it is none: fault tells why");
        t.due("samples of nothing", t.x.make(0, 1, 1), NONE);
        t.dueFault("samples of nothing", NumberFunctions.TELLING, 0);
        t.due("powers of nothing", t.x.make(2, 1, 1), NONE);
        t.dueFault("powers of nothing", NumberFunctions.TELLING, 0);
        t.due("stitched of nothing", t.x.make(3, 1, 1), NONE);
        t.dueFault("stitched of nothing", NumberFunctions.TELLING, 0);
        t.due("a program of nothing", t.x.make(4, 1, 1), NONE);
        t.dueFault("a program of nothing", NumberFunctions.TELLING, 0);
        t.tell(POWERS);
        t.due("then one that is", t.x.make(2, 1, 1), 0);
        t.dueFault("then one that is", NONE, NONE);
    }

    private static void tellingFirst(Trial t) {
        t.says("TELLING, looked at before all others: these are not the numbers said, place 0");
        t.dueTold(false, 0, 1, 1, 0, 0, 1, 0, 0, 8, 0, 0, 0);
        t.dueTold(false, 0, 1, 1, 0, 0, 1, 0, 0, 8, 1, 0, 0, 0);
        t.dueTold(false, 4, 1, 1, 0, 0, 0);
        t.dueTold(false, 4, 1, 1, 0, 0, 1, 0);
        for (String text : new String[] {"{ foo }", "{ 16384 }", "{ if }", Trial.times(13, "{"), Trial.times(401, "1 ")}) {
            t.fresh();
            t.row(text);
            t.dueTold(false, 4, 1, 1, 1, 0, 0, 0);
        }
    }

    private static void rowPlace(Trial t) {
        t.says("ROW, place: how many bytes there should be");
        t.tell(0, 0, 1, 0, 0, 1, 0, 0, 0, 0);
        t.due("of no bytes", t.x.make(0, 1, 1), NONE);
        t.dueFault("of no bytes", NumberFunctions.ROW, 1);
        t.row(new int[8]);
        t.tell(0, 0, 6, 0, 0, 12, 0, 0, 0, 0);
        t.due("9 bytes of 8", t.x.make(0, 1, 1), NONE);
        t.dueFault("9 bytes of 8", NumberFunctions.ROW, 9);
        t.row(new int[9]);
        t.due("9 bytes of 9", t.x.make(0, 1, 1), 0);
        t.says("ROW: a full row");
        t.row(new int[8192]);
        t.tell(0, 0, 64, 0, 0, 0, 0, 64, 0, 0, 16, 0, 0, 0, 0);
        t.due("8192 bytes of 8192", t.x.make(0, 2, 1), 0);
        t.x.cut(8191);
        t.tell(0, 0, 64, 0, 0, 0, 0, 64, 0, 0, 16, 0, 0, 0, 0);
        t.due("8192 bytes of 8191", t.x.make(0, 2, 1), NONE);
        t.dueFault("8192 bytes of 8191", NumberFunctions.ROW, 8192);
    }

    private static void numberToShape(Trial t) {
        t.says("NUMBER to SHAPE");
        t.dueRefused("{ 16384 }", NumberFunctions.NUMBER, 2);
        t.dueRefused("{ foo }", NumberFunctions.WORD, 2);
        t.dueRefused("{" + Trial.times(399, "1 ") + "}", NumberFunctions.MANY, 799);
        t.dueRefused(Trial.times(13, "{"), NumberFunctions.DEEP, 12);
        t.dueRefused("{ if }", NumberFunctions.SHAPE, 2);
        t.says("what a program would do is no fault of its make");
        t.dueRead("{ pop pop 1 0 div true abs }");
        t.dueRead("{" + Trial.times(100, "1 ") + "}");
        t.dueRead("{ 1.5 -1 roll }");
    }

    private static void tellingAndFunctionsStay(Trial t) {
        t.says("the TELLING and all functions stay");
        t.makeProgram("{pop 3}", 1, 1);
        String[] texts = {"{ 16384 }", "{ foo }", "{" + Trial.times(399, "1 ") + "}", Trial.times(13, "{"), "{ if }"};
        t.tellWide(2);
        for (String text : texts) {
            t.row(text);
            t.due("make", t.x.make(4, 1, 1), NONE);
        }
        t.row("{pop 4}");
        t.due("of the same telling", t.x.make(4, 1, 1), 1);
        t.dueOutputs("the first", 0, 3 * ONE);
        t.dueOutputs("the second", 1, 4 * ONE);
        t.row("");
        t.tell(0, 0, 1, 0, 0, 8, 0, MOST, 0, 255);
        t.due("samples of no byte", t.x.make(0, 1, 1), NONE);
        t.row(9);
        t.due("samples of the same telling", t.x.make(0, 1, 1), 2);
        t.dueOutputs("the third", 2, 9);
        t.tell(-MOST, MOST, 1, 0);
        t.due("powers of too few", t.x.make(2, 1, 1), NONE);
        t.due("a number more", t.x.tell(ONE), 5);
        t.due("powers of the same telling", t.x.make(2, 1, 1), 3);
        t.tell(0, 9, 1, 3, 0);
        t.due("stitched of too few", t.x.make(3, 1, 1), NONE);
        t.due("a number more", t.x.tell(9), 6);
        t.due("stitched of the same telling", t.x.make(3, 1, 1), 4);
        t.due("functions", t.x.clear(), 5);
    }

    private static void dueRefusedMake(Trial t, int kind, int inputs, int outputs) {
        t.dueThrow("make " + kind + " " + inputs + " " + outputs, IllegalArgumentException.class,
                () -> t.x.make(kind, inputs, outputs));
    }

    private static void makingOutOfBounds(Trial t) {
        t.says("IllegalArgument: there is no such kind");
        t.tell(POWERS);
        for (int kind : new int[] {-1, 1, 5, 6, Integer.MAX_VALUE, Integer.MIN_VALUE}) {
            dueRefusedMake(t, kind, 1, 1);
        }
        t.says("or inputs (1 .. 4; of KIND 0 1 .. 3, of KINDS 2 and 3 one)");
        int[][] most = {{0, 3}, {2, 1}, {3, 1}, {4, 4}};
        for (int[] row : most) {
            for (int inputs : new int[] {0, -1, Integer.MIN_VALUE, Integer.MAX_VALUE}) {
                dueRefusedMake(t, row[0], inputs, 1);
            }
            for (int inputs = 1; inputs <= 6; inputs++) {
                if (inputs > row[1]) {
                    dueRefusedMake(t, row[0], inputs, 1);
                } else {
                    t.due(row[0] + " of " + inputs + " inputs", t.x.make(row[0], inputs, 1), NONE);
                    t.dueFault(row[0] + " of " + inputs + " inputs", NumberFunctions.TELLING, 0);
                }
            }
        }
        t.says("or outputs (1 .. 4) are out of bounds");
        for (int[] row : most) {
            for (int outputs : new int[] {0, 5, -1, Integer.MIN_VALUE, Integer.MAX_VALUE}) {
                dueRefusedMake(t, row[0], 1, outputs);
                dueRefusedMake(t, row[0], row[1], outputs);
            }
            for (int outputs = 1; outputs <= 4; outputs++) {
                t.due(row[0] + " of " + outputs + " outputs", t.x.make(row[0], 1, outputs), NONE);
                t.dueFault(row[0] + " of " + outputs + " outputs", NumberFunctions.TELLING, 0);
            }
        }
    }

    private static void makingTooMany(Trial t) {
        t.says("IllegalState: there are 24");
        t.row("{}");
        for (int f = 0; f < 24; f++) {
            t.tell(POWERS);
            t.due("function " + f, t.x.make(2, 1, 1), f);
        }
        t.tell(POWERS);
        t.dueThrow("a 25th of powers", IllegalStateException.class, () -> t.x.make(2, 1, 1));
        t.due("the telling stays", t.x.drop(), 5);
        t.dueThrow("a 25th, wrongly told", IllegalStateException.class, () -> t.x.make(2, 1, 1));
        t.dueThrow("a 25th of samples", IllegalStateException.class, () -> t.x.make(0, 1, 1));
        t.dueThrow("a 25th stitched", IllegalStateException.class, () -> t.x.make(3, 1, 1));
        t.tellWide(2);
        t.dueThrow("a 25th program", IllegalStateException.class, () -> t.x.make(4, 1, 1));
        t.dueFault("none of them was made", NONE, NONE);
        t.due("functions", t.x.clear(), 24);
        t.due("room again", t.x.make(4, 1, 1), 0);
    }

    private static void clearing(Trial t) {
        t.says("All functions are gone; how many there were");
        t.due("of none", t.x.clear(), 0);
        for (int many : new int[] {1, 2, 24}) {
            t.fresh();
            for (int f = 0; f < many; f++) {
                t.tell(POWERS);
                t.x.make(2, 1, 1);
            }
            t.due("of " + many, t.x.clear(), many);
            t.due("of none again", t.x.clear(), 0);
            for (int f = 0; f < many; f++) {
                int gone = f;
                t.dueThrow("call " + f, IndexOutOfBoundsException.class, () -> t.x.call(gone));
            }
            t.tell(POWERS);
            t.due("numbered from 0 again", t.x.make(2, 1, 1), 0);
            t.dueThrow("those behind it stay gone", IndexOutOfBoundsException.class, () -> t.x.call(1));
        }
    }

    private static void inputting(Trial t) {
        t.says("Input i, 0 .. 3, is a number: what it was");
        int[] numbers = {MOST, -MOST, MOST - 1, 1 - MOST};
        for (int i = 0; i < 4; i++) {
            t.due("at first", t.x.input(i, numbers[i]), 0);
        }
        for (int i = 0; i < 4; i++) {
            t.due("then", t.x.input(i, numbers[i]), numbers[i]);
        }
        t.makeProgram("{}", 4, 4);
        t.dueOutputs("all four", 0, numbers);
        t.due("the third alone", t.x.input(2, 5), MOST - 1);
        t.dueOutputs("the third alone", 0, MOST, -MOST, 5, 1 - MOST);
    }

    private static void inputtingOutOfBounds(Trial t) {
        t.says("IllegalArgument: i is out of bounds, or it is not -2^30 .. 2^30");
        t.inputs(1, 2, 3, 4);
        for (int i : new int[] {-1, 4, 5, Integer.MAX_VALUE, Integer.MIN_VALUE}) {
            t.dueThrow("input " + i, IllegalArgumentException.class, () -> t.x.input(i, 0));
        }
        for (int number : NO_NUMBERS) {
            for (int i = 0; i < 4; i++) {
                int at = i;
                t.dueThrow(number + " for " + i, IllegalArgumentException.class, () -> t.x.input(at, number));
            }
            t.dueThrow(number + " for 4", IllegalArgumentException.class, () -> t.x.input(4, number));
        }
        for (int i = 0; i < 4; i++) {
            t.due("input " + i + " stays", t.x.input(i, 0), i + 1);
        }
    }

    private static void calling(Trial t) {
        t.says("Function f of the inputs: how many outputs it has");
        String[] programs = {"{}", "{dup}", "{dup dup}", "{dup dup dup}"};
        for (int f = 0; f < 4; f++) {
            t.due("make", t.makeProgram(programs[f], 1, f + 1), f);
        }
        t.inputs(6);
        for (int f = 0; f < 4; f++) {
            t.due("call " + f, t.x.call(f), f + 1);
            for (int i = 0; i < 4; i++) {
                t.due("output " + i + " of " + f, t.x.output(i), i <= f ? 6 : 0);
            }
        }
        t.inputs(7);
        t.due("the outputs are of the call", t.x.output(0), 6);
        t.x.call(0);
        t.due("of the inputs then", t.x.output(0), 7);
    }

    private static void callingWithAFault(Trial t) {
        t.says("NONE if there is a fault");
        t.makeProgram("{0 div}", 1, 1);
        t.makeProgram("{1 exch div}", 1, 1);
        t.due("always", t.x.call(0), NONE);
        t.dueFault("always", NumberFunctions.ZERO, 2);
        t.inputs(ONE);
        t.dueOutputs("not of one", 1, ONE);
        t.inputs(0);
        t.due("of 0", t.x.call(1), NONE);
        t.dueFault("of 0", NumberFunctions.ZERO, 3);
        t.due("the input stays", t.x.input(0, 2 * ONE), 0);
        t.dueOutputs("of two", 1, ONE / 2);
    }

    private static void callingNoFunction(Trial t) {
        t.says("IndexOutOfBounds: there is no such function");
        t.dueThrow("0 of none", IndexOutOfBoundsException.class, () -> t.x.call(0));
        t.dueThrow("-1 of none", IndexOutOfBoundsException.class, () -> t.x.call(-1));
        for (int many = 1; many <= 24; many++) {
            t.tell(POWERS);
            t.x.make(2, 1, 1);
            int next = many;
            t.due("the last of " + many, t.x.call(many - 1), 1);
            t.dueThrow(many + " of " + many, IndexOutOfBoundsException.class, () -> t.x.call(next));
        }
        for (int f : new int[] {-1, 25, Integer.MAX_VALUE, Integer.MIN_VALUE}) {
            t.dueThrow(f + " of 24", IndexOutOfBoundsException.class, () -> t.x.call(f));
        }
        t.x.clear();
        t.dueThrow("0 of those cleared", IndexOutOfBoundsException.class, () -> t.x.call(0));
    }

    private static void dueAll(Trial t, String what, int... outputs) {
        for (int i = 0; i < 4; i++) {
            t.due(what + ": output " + i, t.x.output(i), outputs[i]);
        }
    }

    private static void outputs(Trial t) {
        t.says("Output i of the last call that went through, 0 .. 3");
        t.makeProgram("{}", 4, 4);
        t.makeProgram("{pop true}", 4, 4);
        t.makeProgram("{5}", 4, 4);
        t.makeProgram("{1 2 3 0 div}", 1, 4);
        t.makeProgram("{}", 1, 1);
        t.makeProgram("{dup}", 1, 2);
        t.inputs(1, 2, 3, 4);
        t.x.call(0);
        dueAll(t, "four", 1, 2, 3, 4);
        for (int f = 1; f <= 3; f++) {
            t.due("a fault", t.x.call(f), NONE);
            dueAll(t, "that did not go through", 1, 2, 3, 4);
        }
        t.dueThrow("no call", IndexOutOfBoundsException.class, () -> t.x.call(6));
        dueAll(t, "that was none", 1, 2, 3, 4);
        t.says("0 if it had none such, or there was none");
        dueAll(t, "there was none", 0, 0, 0, 0);
        t.makeProgram("{0 div}", 1, 1);
        t.x.call(0);
        dueAll(t, "none that went through", 0, 0, 0, 0);
        t.makeProgram("{}", 4, 4);
        t.makeProgram("{dup}", 1, 2);
        t.makeProgram("{}", 1, 1);
        t.inputs(1, 2, 3, 4);
        t.x.call(1);
        dueAll(t, "four", 1, 2, 3, 4);
        t.x.call(2);
        dueAll(t, "two", 1, 1, 0, 0);
        t.x.call(1);
        t.x.call(3);
        dueAll(t, "one", 1, 0, 0, 0);
        t.x.clear();
        dueAll(t, "of one that is gone", 1, 0, 0, 0);
    }

    private static void outputsOutOfBounds(Trial t) {
        t.says("IllegalArgument: i is out of bounds");
        for (int round = 0; round < 2; round++) {
            for (int i : new int[] {-1, 4, 5, Integer.MAX_VALUE, Integer.MIN_VALUE}) {
                t.dueThrow("output " + i, IllegalArgumentException.class, () -> t.x.output(i));
            }
            t.makeProgram("{}", 4, 4);
            t.x.call(0);
        }
    }

    private static void faults(Trial t) {
        t.says("Of the last make or call: what = 0 its fault, 1 its place");
        t.makeProgram("{ 1 foo }", 1, 1);
        t.dueFault("a make", NumberFunctions.WORD, 4);
        t.makeProgram("{ 0 div }", 1, 1);
        t.x.call(0);
        t.dueFault("a call", NumberFunctions.ZERO, 2);
        t.makeProgram("{ if }", 1, 1);
        t.dueFault("a make behind it", NumberFunctions.SHAPE, 2);
        t.x.call(0);
        t.dueFault("a call behind that", NumberFunctions.ZERO, 2);
        t.x.feed(1, 2, 3, 4, 5);
        t.x.cut(0);
        t.x.tell(1);
        t.x.drop();
        t.x.input(0, 1);
        t.x.output(0);
        t.x.fault(1);
        t.x.clear();
        t.dueFault("no make, no call", NumberFunctions.ZERO, 2);
        t.says("NONE, if it had none (or there was none)");
        t.dueFault("there was none", NONE, NONE);
        t.makeProgram("{ foo }", 1, 1);
        t.makeProgram("{ dup 0 eq { 0 div } if }", 1, 1);
        t.dueFault("a make that had none", NONE, NONE);
        t.x.call(0);
        t.dueFault("a call that had one", NumberFunctions.ZERO, 6);
        t.inputs(1);
        t.x.call(0);
        t.dueFault("a call that had none", NONE, NONE);
        t.inputs(0);
        t.x.call(0);
        t.makeProgram("{}", 1, 1);
        t.dueFault("a make that had none, behind a call", NONE, NONE);
    }

    private static void faultsOfAnotherWhat(Trial t) {
        t.says("and for another what");
        int[] others = {-1, 2, 3, 14, Integer.MAX_VALUE, Integer.MIN_VALUE};
        for (int what : others) {
            t.due("there was none: " + what, t.x.fault(what), NONE);
        }
        t.makeProgram("{ foo }", 1, 1);
        for (int what : others) {
            t.due("a make: " + what, t.x.fault(what), NONE);
        }
        t.makeProgram("{ pop }", 1, 1);
        t.x.call(0);
        for (int what : others) {
            t.due("a call: " + what, t.x.fault(what), NONE);
        }
        t.dueFault("it stays", NumberFunctions.COUNT, 3);
    }

    /** Two functions, outputs, a fault, a telling and a row that make a third, and inputs. */
    private static void prepare(Trial t) {
        t.fresh();
        t.makeProgram("{}", 4, 4);
        t.makeProgram("{ 0 div }", 1, 1);
        t.inputs(11, 12, 13, 14);
        t.x.call(0);
        t.inputs(21, 22, 23, 24);
        t.x.call(1);
        t.row("{pop 9}");
        t.tellWide(2);
    }

    private static void duePrepared(Trial t, String what, int functions) {
        t.dueFault(what, NumberFunctions.ZERO, 2);
        dueAll(t, what, 11, 12, 13, 14);
        if (functions < 24) {
            t.due(what + ": the telling and the row", t.x.make(4, 1, 1), functions);
            t.dueOutputs(what + ": made of them", functions, 9 * ONE);
        } else {
            t.due(what + ": the telling", t.x.drop(), 4);
        }
        t.due(what + ": the row", t.x.cut(0), 7);
        t.dueOutputs(what + ": the first function and the inputs", 0, 21, 22, 23, 24);
        t.due(what + ": the second function", t.x.call(1), NONE);
        t.due(what + ": functions", t.x.clear(), Math.min(functions + 1, 24));
    }

    private static void dueNothing(Trial t, String what, Class<? extends RuntimeException> want, Runnable call) {
        prepare(t);
        t.dueThrow(what, want, call);
        t.dueThrow(what + " again", want, call);
        duePrepared(t, what, 2);
    }

    private static void throwingChangesNothing(Trial t) {
        t.says("A call that throws changes nothing");
        dueNothing(t, "cut", IllegalArgumentException.class, () -> t.x.cut(-1));
        dueNothing(t, "tell", IllegalArgumentException.class, () -> t.x.tell(MOST + 1));
        dueNothing(t, "make, no kind", IllegalArgumentException.class, () -> t.x.make(1, 1, 1));
        dueNothing(t, "make, inputs", IllegalArgumentException.class, () -> t.x.make(4, 5, 1));
        dueNothing(t, "make, outputs", IllegalArgumentException.class, () -> t.x.make(4, 1, 0));
        dueNothing(t, "input, no such", IllegalArgumentException.class, () -> t.x.input(4, 99));
        dueNothing(t, "input, no number", IllegalArgumentException.class, () -> t.x.input(0, MOST + 1));
        dueNothing(t, "call", IndexOutOfBoundsException.class, () -> t.x.call(2));
        dueNothing(t, "call", IndexOutOfBoundsException.class, () -> t.x.call(-1));
        dueNothing(t, "output", IllegalArgumentException.class, () -> t.x.output(4));
        prepare(t);
        for (int f = 2; f < 24; f++) {
            t.tell(POWERS);
            t.x.make(2, 1, 1);
        }
        t.x.call(1);
        t.tellWide(2);
        t.dueThrow("make, the 25th", IllegalStateException.class, () -> t.x.make(4, 1, 1));
        duePrepared(t, "make, the 25th", 24);
        prepare(t);
        for (int i = 5; i <= 96; i++) {
            t.x.tell(i);
        }
        t.dueThrow("tell, the 97th", IllegalStateException.class, () -> t.x.tell(0));
        t.due("tell, the 97th: numbers", t.x.drop(), 96);
        t.tellWide(2);
        duePrepared(t, "tell, the 97th", 2);
    }

    private static void firstExceptionWins(Trial t) {
        t.says("where it lists more than one exception, the first one wins");
        for (int i = 0; i < 96; i++) {
            t.x.tell(i);
        }
        for (int number : NO_NUMBERS) {
            t.dueThrow("tell " + number + " behind 96", IllegalArgumentException.class, () -> t.x.tell(number));
        }
        for (int f = 0; f < 24; f++) {
            t.tell(POWERS);
            t.x.make(2, 1, 1);
        }
        dueRefusedMake(t, 1, 1, 1);
        dueRefusedMake(t, 5, 1, 1);
        dueRefusedMake(t, 0, 4, 1);
        dueRefusedMake(t, 2, 2, 1);
        dueRefusedMake(t, 3, 2, 1);
        dueRefusedMake(t, 4, 5, 1);
        dueRefusedMake(t, 4, 0, 1);
        dueRefusedMake(t, 4, 1, 0);
        dueRefusedMake(t, 4, 1, 5);
        t.due("functions", t.x.clear(), 24);
    }
}
