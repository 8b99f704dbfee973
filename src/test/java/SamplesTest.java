/** Kind 0: tables of samples. */
final class SamplesTest {
    private static final int ONE = Trial.ONE;
    private static final int MOST = Trial.MOST;

    public static void main(String[] args) {
        Trial t = new Trial();
        allBits(t);
        placesAndOutputs(t);
        threeInputs(t);
        roundingDown(t);
        encoding(t);
        decoding(t);
        againstExactArithmetic(t);
        t.end();
    }

    /** Inputs are places, outputs are the samples themselves, as long as they fit. */
    private static int plain(Trial t, int size, int bits) {
        int last = (size - 1) * ONE;
        t.tell(0, last, size, 0, last, bits, -MOST, MOST, 0, ((1 << bits) - 1) * ONE);
        return t.x.make(0, 1, 1);
    }

    private static void duePlain(Trial t, int[] bytes, int bits, int... samples) {
        t.fresh();
        t.row(bytes);
        int f = plain(t, samples.length, bits);
        for (int i = 0; i < samples.length; i++) {
            t.inputs(i * ONE);
            t.dueOutputs(bits + " bits, sample " + i, f, samples[i] * ONE);
            if (i + 1 < samples.length) {
                t.inputs(i * ONE + ONE / 2);
                t.dueOutputs(bits + " bits, behind " + i, f, (samples[i] + samples[i + 1]) * (ONE / 2));
            }
        }
    }

    private static void allBits(Trial t) {
        int[] two = {0xB1, 0x2F};
        duePlain(t, two, 1, 1, 0, 1, 1, 0, 0, 0, 1, 0, 0, 1, 0);
        duePlain(t, two, 2, 2, 3, 0, 1, 0, 2, 3, 3);
        duePlain(t, two, 4, 11, 1, 2, 15);
        duePlain(t, two, 8, 0xB1, 0x2F);
        duePlain(t, new int[] {0x12, 0x3F, 0xED, 0xCB, 0xA9}, 12, 0x123, 0xFED, 0xCBA);
        t.fresh();
        t.row(0xFF, 0xFE, 0x00, 0x01, 0x80, 0x00);
        t.tell(0, 2 * ONE, 3, 0, 2 * ONE, 16, -MOST, MOST, 0, MOST);
        int f = t.x.make(0, 1, 1);
        int[] samples = {0xFFFE, 1, 0x8000};
        for (int i = 0; i < 3; i++) {
            t.inputs(i * ONE);
            t.dueOutputs("16 bits", f, (int) ((long) samples[i] * MOST / 65535));
        }
    }

    private static void placesAndOutputs(Trial t) {
        t.fresh();
        t.row(10, 110, 20, 120, 30, 130, 40, 140, 50, 150, 60, 160);
        int[] output = {0, MOST, 0, 255 * ONE};
        t.tell(Trial.joined(new int[] {0, 2 * ONE, 3, 0, 2 * ONE, 0, ONE, 2, 0, ONE, 8}, output, output));
        t.due("make", t.x.make(0, 2, 2), 0);
        for (int b = 0; b < 2; b++) {
            for (int a = 0; a < 3; a++) {
                t.inputs(a * ONE, b * ONE);
                int sample = 10 * (3 * b + a + 1) * ONE;
                t.dueOutputs("place " + a + " " + b, 0, sample, sample + 100 * ONE);
            }
        }
        t.inputs(ONE + ONE / 2, ONE / 4);
        t.dueOutputs("between places", 0, 32 * ONE + ONE / 2, 132 * ONE + ONE / 2);
    }

    private static void threeInputs(Trial t) {
        t.fresh();
        t.row(1, 2, 3, 4, 5, 6, 7, 8);
        int[] input = {0, ONE, 2, 0, ONE};
        t.tell(Trial.joined(input, input, input, new int[] {8, 0, MOST, 0, 255 * ONE}));
        t.due("make", t.x.make(0, 3, 1), 0);
        for (int corner = 0; corner < 8; corner++) {
            t.inputs((corner & 1) * ONE, (corner >> 1 & 1) * ONE, (corner >> 2) * ONE);
            t.dueOutputs("corner " + corner, 0, (corner + 1) * ONE);
        }
        t.inputs(ONE / 2, ONE / 2, ONE / 2);
        t.dueOutputs("the middle", 0, 4 * ONE + ONE / 2);
        t.inputs(ONE / 4, 0, ONE / 2);
        t.dueOutputs("on an edge", 0, 3 * ONE + ONE / 4);
    }

    private static void roundingDown(Trial t) {
        t.fresh();
        int[] input = {0, ONE, 2, 0, ONE};
        t.row(0x90);
        t.tell(Trial.joined(input, input, new int[] {1, 0, ONE, 0, ONE}));
        t.due("make", t.x.make(0, 2, 1), 0);
        t.inputs(1, 1);
        t.dueOutputs("going down", 0, ONE - 2);
        t.row(0x60);
        t.tell(Trial.joined(input, input, new int[] {1, 0, ONE, 0, ONE}));
        t.due("make", t.x.make(0, 2, 1), 1);
        t.dueOutputs("going up", 1, 1);
        t.row(0x10);
        t.tell(Trial.joined(input, input, new int[] {1, 0, ONE, 0, ONE}));
        t.due("make", t.x.make(0, 2, 1), 2);
        t.inputs(3, ONE / 2);
        t.dueOutputs("half of three", 2, 1);
    }

    private static void encoding(Trial t) {
        t.fresh();
        t.row(0x40);
        t.tell(0, 3, 2, 0, ONE, 1, 0, ONE, 0, ONE);
        t.due("make", t.x.make(0, 1, 1), 0);
        int[] thirds = {0, 21845, 43690, ONE, ONE, 0};
        int[] given = {0, 1, 2, 3, 4, -1};
        for (int i = 0; i < given.length; i++) {
            t.inputs(given[i]);
            t.dueOutputs("rising, of " + given[i], 0, thirds[i]);
        }
        t.tell(0, 3, 2, ONE, 0, 1, 0, ONE, 0, ONE);
        t.due("make", t.x.make(0, 1, 1), 1);
        int[] falling = {ONE, 43690, 21845, 0, 0, ONE};
        for (int i = 0; i < given.length; i++) {
            t.inputs(given[i]);
            t.dueOutputs("falling, of " + given[i], 1, falling[i]);
        }
        t.tell(0, 4, 2, -2 * ONE, 2 * ONE, 1, 0, ONE, 0, ONE);
        t.due("make", t.x.make(0, 1, 1), 2);
        int[] cut = {0, 0, 0, ONE, ONE};
        for (int i = 0; i <= 4; i++) {
            t.inputs(i);
            t.dueOutputs("cut to the places, of " + i, 2, cut[i]);
        }
        t.tell(7, 7, 2, ONE / 4, ONE, 1, 0, ONE, 0, ONE);
        t.due("make", t.x.make(0, 1, 1), 3);
        t.inputs(9);
        t.dueOutputs("a domain of one number", 3, ONE / 4);
        t.tell(-MOST, MOST, 2, -MOST, MOST, 1, 0, ONE, 0, ONE);
        t.due("make", t.x.make(0, 1, 1), 4);
        t.inputs(ONE / 2 + 1);
        t.dueOutputs("the widest: the quotient is not cut", 4, ONE / 2 + 1);
        t.tell(0, ONE, 1, 0, ONE, 1, 0, ONE, 3, 4);
        t.due("make", t.x.make(0, 1, 1), 5);
        t.dueOutputs("one place only", 5, 3);
        t.tell(-7, -3, 2, 0, ONE, 1, 0, ONE, 0, ONE);
        t.due("make", t.x.make(0, 1, 1), 6);
        t.inputs(-4);
        t.dueOutputs("a domain below 0", 6, 3 * ONE / 4);
    }

    private static void decoding(Trial t) {
        t.fresh();
        t.row(0, 255, 85, 170);
        t.tell(Trial.joined(new int[] {0, 0, 1, 0, 0, 8},
                new int[] {-5, 6, -10, 20, 0, MOST, MOST, -MOST, -MOST, MOST, -MOST, MOST, 0, 4, 4, 0}));
        t.due("make", t.x.make(0, 1, 4), 0);
        t.dueOutputs("four outputs", 0, -5, 0, (int) (-MOST + 2L * MOST / 3), 1);
        t.row(0x55, 0x55);
        t.tell(0, 0, 1, 0, 0, 16, -MOST, MOST, MOST, -MOST);
        t.due("make", t.x.make(0, 1, 1), 1);
        t.dueOutputs("the widest", 1, (int) (MOST + Math.floorDiv(-2L * MOST * 0x5555, 65535L)));
        t.row(0xFF, 0xFF);
        t.tell(0, 0, 1, 0, 0, 16, -MOST, MOST, MOST, -MOST);
        t.due("make", t.x.make(0, 1, 1), 2);
        t.dueOutputs("the widest, at its end", 2, -MOST);
    }

    private static void againstExactArithmetic(Trial t) {
        t.fresh();
        t.row(0x00, 0xFF, 0x13, 0x77, 0xFE, 0x01);
        t.tell(-7, 100003, 2, 5, 65536, -11, 50001, 3, 0, 131072, 8, -MOST, MOST, -12345, 678901);
        t.due("make", t.x.make(0, 2, 1), 0);
        int[] bytes = {0x00, 0xFF, 0x13, 0x77, 0xFE, 0x01};
        for (int k = 0; k < 40; k++) {
            int a = k * 2503 - 7;
            int b = k * 1250 - 11;
            t.inputs(a, b);
            long ea = 5 + Math.floorDiv((a + 7L) * 65531, 100010L);
            long eb = Math.floorDiv((b + 11L) * 131072, 50012L);
            int ib = (int) (eb >> 16);
            long low = line(bytes[2 * ib] * 65536L, bytes[2 * ib + 1] * 65536L, ea);
            long high = line(bytes[2 * ib + 2] * 65536L, bytes[2 * ib + 3] * 65536L, ea);
            long value = line(low, high, eb & 65535);
            t.dueOutputs("place " + k, 0, (int) (-12345 + Math.floorDiv(value * 691246, 255L * 65536)));
        }
    }

    private static long line(long a, long b, long f) {
        return a + Math.floorDiv((b - a) * f, 65536L);
    }
}
