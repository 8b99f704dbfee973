/** The sentences of "Terms" about functions of kind 0. */
final class BoundarySamplesTest {
    private static final int ONE = Trial.ONE;
    private static final int MOST = Trial.MOST;
    private static final int NONE = NumberFunctions.NONE;
    private static final int[] BYTES_AS_THEY_ARE = {8, 0, MOST, 0, 255 * ONE};
    private static final int[] BITS_AS_THEY_ARE = {1, -MOST, MOST, 0, ONE};

    public static void main(String[] args) {
        Trial t = new Trial();
        atMostThreeInputs(t);
        sizes(t);
        bits(t);
        toldAsTheyAre(t);
        encodedAndDecodedAreAnyNumbers(t);
        highestBitFirst(t);
        oneBehindTheOther(t);
        allOutputsForEachPlace(t);
        firstInputGoesFastest(t);
        rowHasAllOfThem(t);
        inputIsCutToItsDomain(t);
        inputIsCutToThePlaces(t);
        samplesAreNotCut(t);
        nextSampleWhereThereIsOne(t);
        betweenIsRoundedDown(t);
        firstThenSecondThenThird(t);
        outputIsLaid(t);
        outputIsCutToItsRange(t);
        t.end();
    }

    private static void atMostThreeInputs(Trial t) {
        t.says("SAMPLES (of at most 3 inputs)");
        t.row(7);
        int[] input = {0, 0, 1, 0, 0};
        t.tell(Trial.joined(input, input, input, BYTES_AS_THEY_ARE));
        t.due("three inputs", t.x.make(0, 3, 1), 0);
        t.dueOutputs("three inputs", 0, 7 * ONE);
        t.tell(Trial.joined(input, input, input, input, BYTES_AS_THEY_ARE));
        t.dueThrow("four inputs", IllegalArgumentException.class, () -> t.x.make(0, 4, 1));
    }

    private static void dueSize(Trial t, int size, boolean right) {
        int[] one = {0, 0, 1, 0, 0};
        int[] sized = {0, 0, size, 0, 0};
        t.fresh();
        t.row(new int[64]);
        t.dueTold(right, 0, 1, 1, Trial.joined(sized, BYTES_AS_THEY_ARE));
        t.dueTold(right, 0, 3, 1, Trial.joined(sized, one, one, BYTES_AS_THEY_ARE));
        t.dueTold(right, 0, 3, 1, Trial.joined(one, sized, one, BYTES_AS_THEY_ARE));
        t.dueTold(right, 0, 3, 1, Trial.joined(one, one, sized, BYTES_AS_THEY_ARE));
    }

    private static void sizes(Trial t) {
        t.says("SIZE 1 .. 64");
        dueSize(t, -MOST, false);
        dueSize(t, -1, false);
        dueSize(t, 0, false);
        dueSize(t, 1, true);
        dueSize(t, 64, true);
        dueSize(t, 65, false);
        dueSize(t, MOST, false);
    }

    private static void bits(Trial t) {
        t.says("BITS 1, 2, 4, 8, 12, 16");
        int[] right = {1, 2, 4, 8, 12, 16};
        int next = 0;
        for (int bits = -2; bits <= 65; bits++) {
            boolean is = next < right.length && right[next] == bits;
            next += is ? 1 : 0;
            t.fresh();
            t.row(0, 0);
            t.dueTold(is, 0, 1, 1, 0, 0, 1, 0, 0, bits, 0, 0, 0, 0);
        }
        t.fresh();
        t.dueTold(false, 0, 1, 1, 0, 0, 1, 0, 0, MOST, 0, 0, 0, 0);
        t.dueTold(false, 0, 1, 1, 0, 0, 1, 0, 0, -MOST, 0, 0, 0, 0);
    }

    private static void toldAsTheyAre(Trial t) {
        t.says("SIZE and BITS are told as they are (not in 65,536ths)");
        t.row(new int[64]);
        t.dueTold(false, 0, 1, 1, 0, 0, ONE, 0, 0, 8, 0, 0, 0, 0);
        t.dueTold(false, 0, 1, 1, 0, 0, 1, 0, 0, 8 * ONE, 0, 0, 0, 0);
        t.dueTold(true, 0, 1, 1, 0, 0, 2, 0, 0, 8, 0, 0, 0, 0);
    }

    private static void encodedAndDecodedAreAnyNumbers(Trial t) {
        t.says("two numbers (ENCODED) .. two numbers (DECODED): these are no pairs low, high");
        t.row(0);
        t.dueTold(true, 0, 1, 1, 0, 0, 1, 1, -1, 8, 0, 0, 1, -1);
        t.dueTold(true, 0, 1, 1, 0, 0, 1, MOST, -MOST, 8, 0, 0, MOST, -MOST);
    }

    /** A table of one input, whose places are 0, 1, .., and of samples that come out as they are. */
    private static void dueTable(Trial t, int[] bytes, int bits, int... samples) {
        t.fresh();
        t.row(bytes);
        int last = (samples.length - 1) * ONE;
        t.tell(0, last, samples.length, 0, last, bits, 0, MOST, 0, (1 << bits) - 1);
        t.due("make", t.x.make(0, 1, 1), 0);
        for (int i = 0; i < samples.length; i++) {
            t.inputs(i * ONE);
            t.dueOutputs(bits + " bits, sample " + i, 0, samples[i]);
        }
    }

    private static void highestBitFirst(Trial t) {
        t.says("numbers of BITS bits in the row (the highest bit of each byte first)");
        dueTable(t, new int[] {0x80}, 1, 1, 0, 0, 0, 0, 0, 0, 0);
        dueTable(t, new int[] {0x01}, 1, 0, 0, 0, 0, 0, 0, 0, 1);
        dueTable(t, new int[] {0x1B}, 2, 0, 1, 2, 3);
        dueTable(t, new int[] {0x8F}, 4, 8, 15);
        dueTable(t, new int[] {0x80}, 8, 128);
        dueTable(t, new int[] {0x80, 0x10}, 12, 0x801);
        dueTable(t, new int[] {0x80, 0x01}, 16, 0x8001);
        dueTable(t, new int[] {0xFF, 0xFF}, 16, 0xFFFF);
    }

    private static void oneBehindTheOther(Trial t) {
        t.says("one behind the other");
        dueTable(t, new int[] {0x00, 0x80}, 1, 0, 0, 0, 0, 0, 0, 0, 0, 1);
        dueTable(t, new int[] {0x12, 0x34, 0x56}, 12, 0x123, 0x456);
        dueTable(t, new int[] {0x12, 0x34, 0x56, 0x78, 0x90}, 12, 0x123, 0x456, 0x789);
        dueTable(t, new int[] {0x01, 0x02, 0x03, 0x04}, 16, 0x0102, 0x0304);
    }

    private static void allOutputsForEachPlace(Trial t) {
        t.says("for each place all outputs");
        t.row(0x12, 0x34, 0x56);
        int[] output = {0, MOST, 0, 15};
        t.tell(Trial.joined(new int[] {0, ONE, 2, 0, ONE, 4}, output, output, output));
        t.due("make", t.x.make(0, 1, 3), 0);
        t.inputs(0);
        t.dueOutputs("the first place", 0, 1, 2, 3);
        t.inputs(ONE);
        t.dueOutputs("the second place", 0, 4, 5, 6);
    }

    private static void firstInputGoesFastest(Trial t) {
        t.says("the first input's place goes fastest");
        int[] bytes = new int[24];
        for (int i = 0; i < bytes.length; i++) {
            bytes[i] = i;
        }
        t.row(bytes);
        int[] inputs = {0, ONE, 2, 0, ONE, 0, 2 * ONE, 3, 0, 2 * ONE, 0, 3 * ONE, 4, 0, 3 * ONE};
        t.tell(Trial.joined(inputs, BYTES_AS_THEY_ARE));
        t.due("make", t.x.make(0, 3, 1), 0);
        for (int at = 0; at < bytes.length; at++) {
            t.inputs(at % 2 * ONE, at / 2 % 3 * ONE, at / 6 * ONE);
            t.dueOutputs("sample " + at, 0, at * ONE);
        }
    }

    private static void dueBytes(Trial t, int bytes, int bits, int outputs, int... sizes) {
        int[] telling = new int[0];
        for (int size : sizes) {
            telling = Trial.joined(telling, new int[] {0, 0, size, 0, 0});
        }
        telling = Trial.joined(telling, new int[] {bits}, new int[4 * outputs]);
        for (int have = bytes - 1; have <= bytes + 1; have++) {
            t.fresh();
            t.row(new int[have]);
            t.tell(telling);
            String what = "of " + bytes + " bytes there are " + have;
            boolean enough = have >= bytes;
            t.due(what, t.x.make(0, sizes.length, outputs), enough ? 0 : NONE);
            t.dueFault(what, enough ? NONE : NumberFunctions.ROW, enough ? NONE : bytes);
            t.due(what + ": left in the telling", t.x.drop(), enough ? 0 : telling.length);
        }
    }

    private static void rowHasAllOfThem(Trial t) {
        t.says("The row has all of them: else ROW");
        dueBytes(t, 1, 1, 1, 1);
        dueBytes(t, 1, 1, 2, 2, 2);
        dueBytes(t, 2, 1, 3, 3);
        dueBytes(t, 1, 2, 4, 1);
        dueBytes(t, 2, 2, 1, 5);
        dueBytes(t, 2, 4, 3, 1);
        dueBytes(t, 27, 8, 1, 3, 3, 3);
        dueBytes(t, 2, 12, 1, 1);
        dueBytes(t, 3, 12, 1, 2);
        dueBytes(t, 5, 12, 3, 1);
        dueBytes(t, 8, 16, 4, 1);
        dueBytes(t, 7168, 8, 2, 64, 56);
        t.says("ROW, though no row can have so many");
        int[] input = {0, 0, 64, 0, 0};
        t.tell(Trial.joined(input, input, input, new int[] {16}, new int[16]));
        t.due("64 64 64 4 16", t.x.make(0, 3, 4), NONE);
        t.dueFault("64 64 64 4 16", NumberFunctions.ROW, 2097152);
        t.tell(Trial.joined(input, input, new int[] {16}, new int[8]));
        t.due("64 64 2 16", t.x.make(0, 2, 2), NONE);
        t.dueFault("64 64 2 16", NumberFunctions.ROW, 16384);
    }

    private static void dueAt(Trial t, int f, int input, int want) {
        t.inputs(input);
        t.dueOutputs("function " + f + " of " + input, f, want);
    }

    private static void inputIsCutToItsDomain(Trial t) {
        t.says("each input is cut to its DOMAIN");
        t.row(0x40);
        t.tell(Trial.joined(new int[] {-4, 4, 2, ONE / 2 - 4, ONE / 2 + 4}, BITS_AS_THEY_ARE));
        t.due("make", t.x.make(0, 1, 1), 0);
        dueAt(t, 0, -5, ONE / 2 - 4);
        dueAt(t, 0, -4, ONE / 2 - 4);
        dueAt(t, 0, -3, ONE / 2 - 3);
        dueAt(t, 0, 3, ONE / 2 + 3);
        dueAt(t, 0, 4, ONE / 2 + 4);
        dueAt(t, 0, 5, ONE / 2 + 4);
        dueAt(t, 0, MOST, ONE / 2 + 4);
        dueAt(t, 0, -MOST, ONE / 2 - 4);
        int[] only = {9, 9, 1, 0, 0};
        t.tell(Trial.joined(only, only, new int[] {-4, 4, 2, ONE / 2 - 4, ONE / 2 + 4}, BITS_AS_THEY_ARE));
        t.due("make", t.x.make(0, 3, 1), 1);
        t.inputs(0, MOST, 5);
        t.dueOutputs("the third input", 1, ONE / 2 + 4);
        t.inputs(0, MOST, -5);
        t.dueOutputs("the third input", 1, ONE / 2 - 4);
    }

    private static void inputIsCutToThePlaces(Trial t) {
        t.says("LAID from that to ENCODED, and cut to 0 .. SIZE - 1");
        t.row(10, 20, 40);
        t.tell(Trial.joined(new int[] {-4, 4, 3, -4 * ONE, 4 * ONE}, BYTES_AS_THEY_ARE));
        t.due("make", t.x.make(0, 1, 1), 0);
        int[] places = {10, 10, 10, 10, 10, 20, 40, 40, 40};
        for (int x = -4; x <= 4; x++) {
            dueAt(t, 0, x, places[x + 4] * ONE);
        }
        t.tell(Trial.joined(new int[] {-4 * ONE, 4 * ONE, 3, -4 * ONE, 4 * ONE}, BYTES_AS_THEY_ARE));
        t.due("make", t.x.make(0, 1, 1), 1);
        dueAt(t, 1, -1, 10 * ONE);
        dueAt(t, 1, 1, 10 * ONE + 10);
        dueAt(t, 1, 2 * ONE - 1, 40 * ONE - 20);
        dueAt(t, 1, 2 * ONE, 40 * ONE);
        dueAt(t, 1, 2 * ONE + 1, 40 * ONE);
        t.tell(Trial.joined(new int[] {0, 2, 3, 2 * ONE, 0}, BYTES_AS_THEY_ARE));
        t.due("make", t.x.make(0, 1, 1), 2);
        dueAt(t, 2, 0, 40 * ONE);
        dueAt(t, 2, 1, 20 * ONE);
        dueAt(t, 2, 2, 10 * ONE);
        t.tell(Trial.joined(new int[] {5, 5, 3, ONE, 2 * ONE}, BYTES_AS_THEY_ARE));
        t.due("make", t.x.make(0, 1, 1), 3);
        dueAt(t, 3, 5, 20 * ONE);
        dueAt(t, 3, MOST, 20 * ONE);
    }

    /** 65,535 times 65,536 is four times the greatest number. */
    private static void samplesAreNotCut(Trial t) {
        t.says("(this, what is between samples, and 2^BITS - 1 times 65,536 are not cut)");
        t.row(0xFF, 0xFF, 0x80, 0x01, 0x00, 0x00);
        t.tell(0, 2 * ONE, 3, 0, 2 * ONE, 16, -MOST, MOST, 0, 65535);
        t.due("make", t.x.make(0, 1, 1), 0);
        dueAt(t, 0, 0, 65535);
        dueAt(t, 0, ONE / 2, 49152);
        dueAt(t, 0, ONE, 32769);
        dueAt(t, 0, ONE + ONE / 2, 16384);
        dueAt(t, 0, 2 * ONE, 0);
        t.tell(0, 2 * ONE, 3, 0, 2 * ONE, 16, -MOST, MOST, -MOST, MOST);
        t.due("make", t.x.make(0, 1, 1), 1);
        dueAt(t, 1, 0, MOST);
        dueAt(t, 1, ONE, 49152);
        dueAt(t, 1, 2 * ONE, -MOST);
    }

    private static void nextSampleWhereThereIsOne(Trial t) {
        t.says("(i and, where there is one, i + 1, else i, for each input)");
        t.row(10, 20, 30, 40, 50, 60);
        t.tell(Trial.joined(new int[] {0, ONE, 2, 0, ONE, 0, 2 * ONE, 3, 0, 2 * ONE}, BYTES_AS_THEY_ARE));
        t.due("make", t.x.make(0, 2, 1), 0);
        t.inputs(ONE, 2 * ONE);
        t.dueOutputs("the last places", 0, 60 * ONE);
        t.inputs(ONE, ONE / 2);
        t.dueOutputs("the last place of the first input", 0, 30 * ONE);
        t.inputs(ONE / 2, 2 * ONE);
        t.dueOutputs("the last place of the second input", 0, 55 * ONE);
        t.inputs(ONE - 1, 0);
        t.dueOutputs("just before the last place", 0, 20 * ONE - 10);
        t.tell(Trial.joined(new int[] {0, ONE, 1, 0, ONE, 0, 2 * ONE, 1, 0, 2 * ONE}, BYTES_AS_THEY_ARE));
        t.due("make", t.x.make(0, 2, 1), 1);
        t.inputs(ONE / 2, ONE / 2);
        t.dueOutputs("one place for each input", 1, 10 * ONE);
    }

    private static void betweenIsRoundedDown(Trial t) {
        t.says("a + (b - a) f / 65536, rounded down");
        t.row(0x40, 0x10);
        t.tell(0, ONE, 2, 0, ONE, 4, -MOST, MOST, 0, 15 * ONE);
        t.due("falling by four", t.x.make(0, 1, 1), 0);
        dueAt(t, 0, 1, 4 * ONE - 4);
        t.row(0x01, 0x02);
        t.tell(0, 3 * ONE, 4, 0, 3 * ONE, 4, -MOST, MOST, 0, 15 * ONE);
        t.due("rising and falling by one", t.x.make(0, 1, 1), 1);
        dueAt(t, 1, 1, 1);
        dueAt(t, 1, ONE + 1, ONE - 1);
        // A sample counts 65,536 parts, so that parts are lost only from the second input on.
        int[] input = {0, ONE, 2, 0, ONE};
        t.row(0x10);
        t.tell(Trial.joined(input, input, BITS_AS_THEY_ARE));
        t.due("one of four", t.x.make(0, 2, 1), 2);
        t.inputs(ONE - 1, ONE - 1);
        t.dueOutputs("just below one", 2, ONE - 2);
        t.inputs(1, ONE - 1);
        t.dueOutputs("just below a part", 2, 0);
        t.row(0x20);
        t.tell(Trial.joined(input, input, BITS_AS_THEY_ARE));
        t.due("the other of four", t.x.make(0, 2, 1), 3);
        t.inputs(ONE - 1, ONE - 1);
        t.dueOutputs("falling", 3, 0);
        t.inputs(1, 1);
        t.dueOutputs("falling, rising", 3, 0);
        t.row(0x80);
        t.tell(Trial.joined(input, input, BITS_AS_THEY_ARE));
        t.due("the first of four", t.x.make(0, 2, 1), 4);
        t.inputs(1, 1);
        t.dueOutputs("falling twice", 4, ONE - 2);
    }

    /** What is lost by rounding, from the second input on, tells which input comes last. */
    private static void firstThenSecondThenThird(Trial t) {
        t.says("in the first input alone .. these likewise by the second, and the third");
        int[] input = {0, ONE, 2, 0, ONE};
        t.row(0x01);
        t.tell(Trial.joined(input, input, input, BITS_AS_THEY_ARE));
        t.due("one at the last place alone", t.x.make(0, 3, 1), 0);
        t.inputs(300, 300, ONE - 1);
        t.dueOutputs("one part, and then less than one", 0, 0);
        t.inputs(300, ONE - 1, 300);
        t.dueOutputs("299 parts, and then 300 of 65,536ths of them", 0, 1);
        t.inputs(ONE - 1, 300, 300);
        t.dueOutputs("the same, turned", 0, 1);
        t.row(0x0E);
        t.tell(Trial.joined(input, input, input, BITS_AS_THEY_ARE));
        t.due("ones at three places", t.x.make(0, 3, 1), 1);
        int[][] places = {{300, 300, ONE - 1}, {ONE - 1, 300, 300}, {40000, 30000, 20000}, {20001, 40003, 30001}};
        for (int[] place : places) {
            t.inputs(place);
            t.dueOutputs("three inputs", 1, threeOnes(place[0], place[1], place[2]));
        }
    }

    private static long line(long a, long b, long f) {
        return a + Math.floorDiv((b - a) * f, (long) ONE);
    }

    /** Between 0 0 0 0 and, where the third input is at 1, 1 1 1 0. */
    private static int threeOnes(int f, int g, int h) {
        return (int) line(0, line(ONE, line(ONE, 0, f), g), h);
    }

    private static void outputIsLaid(Trial t) {
        t.says("The output is LAID from 0..(2^BITS - 1) times 65,536 to DECODED");
        int[] bits = {1, 2, 4, 8, 12, 16};
        for (int many : bits) {
            t.fresh();
            t.row(0xFF, 0xFF);
            t.tell(0, 0, 1, 0, 0, many, -MOST, MOST, -7, 11);
            t.x.make(0, 1, 1);
            t.dueOutputs("the highest of " + many, 0, 11);
            t.row(0, 0);
            t.tell(0, 0, 1, 0, 0, many, -MOST, MOST, -7, 11);
            t.x.make(0, 1, 1);
            t.dueOutputs("the lowest of " + many, 1, -7);
        }
        t.fresh();
        t.row(0x40);
        t.tell(0, 0, 1, 0, 0, 2, -MOST, MOST, 0, -1);
        t.x.make(0, 1, 1);
        t.dueOutputs("a third of -1, rounded down", 0, -1);
        t.tell(0, 0, 1, 0, 0, 2, -MOST, MOST, 0, 2);
        t.x.make(0, 1, 1);
        t.dueOutputs("a third of 2, rounded down", 1, 0);
        t.tell(0, 0, 1, 0, 0, 2, -MOST, MOST, 9, 9);
        t.x.make(0, 1, 1);
        t.dueOutputs("from 9 to 9", 2, 9);
    }

    private static void outputIsCutToItsRange(Trial t) {
        t.says("and cut to its RANGE");
        t.row(0, 1, 254, 255);
        int[] decoded = {0, 255};
        t.tell(Trial.joined(new int[] {0, 0, 1, 0, 0, 8}, new int[] {1, 254}, decoded, new int[] {1, 254}, decoded,
                new int[] {1, 254}, decoded, new int[] {1, 254}, decoded));
        t.due("make", t.x.make(0, 1, 4), 0);
        t.dueOutputs("1 .. 254", 0, 1, 1, 254, 254);
        t.tell(Trial.joined(new int[] {0, 0, 1, 0, 0, 8}, new int[] {5, 5}, decoded, new int[] {-9, -9}, decoded,
                new int[] {0, 253}, decoded, new int[] {0, 255}, decoded));
        t.due("make", t.x.make(0, 1, 4), 1);
        t.dueOutputs("each its own", 1, 5, -9, 253, 255);
    }
}
