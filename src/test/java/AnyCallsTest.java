import java.util.Random;

/**
 * Whatever is called, and in whatever state: only what the document lists is thrown, and always by
 * the class itself, never by the machine. The same calls give the same answers.
 */
final class AnyCallsTest {
    private static final int[] EDGES = {0, 1, -1, 2, 3, 4, 5, 7, 8, 12, 16, 17, 20, 24, 60, 64, 65, 96, 400,
        8192, Trial.ONE, -Trial.ONE, Trial.ONE / 2, Trial.MOST, -Trial.MOST, Trial.MOST + 1, -Trial.MOST - 1,
        Integer.MAX_VALUE, Integer.MIN_VALUE};
    private static final String[] WORDS = ("{ } {1} {2} if ifelse 1 2 0 -1 3 0.5 -31 32 16383 16384 true false abs neg "
        + "ceiling floor round truncate cvi cvr sqrt add sub mul div idiv mod eq ne gt ge lt le and or xor not "
        + "bitshift pop exch dup copy index roll foo 1. -").split(" ");

    private final Random random;
    private final Trial t = new Trial();
    private long sum = 0;

    private AnyCallsTest(long seed) {
        random = new Random(seed);
    }

    public static void main(String[] args) {
        Trial t = new Trial();
        for (int seed = 0; seed < 400; seed++) {
            t.due("seed " + seed + ", once and again", played(seed), played(seed));
        }
        t.end();
    }

    private static long played(long seed) {
        AnyCallsTest any = new AnyCallsTest(seed);
        for (int call = 0; call < 500; call++) {
            any.step();
        }
        return any.sum;
    }

    private void step() {
        try {
            sum = sum * 31 + anyCall();
        } catch (IllegalArgumentException | IllegalStateException | IndexOutOfBoundsException e) {
            StackTraceElement thrower = e.getStackTrace()[0];
            if (!thrower.getClassName().equals("NumberFunctions") || e.getClass().getSuperclass() != RuntimeException.class) {
                throw e;
            }
            sum = sum * 31 + 17;
        }
    }

    private int anyCall() {
        switch (random.nextInt(16)) {
            case 0:
                return t.x.feed(random.nextInt(), number(), random.nextInt(), number(), random.nextInt());
            case 1:
                return t.x.cut(number());
            case 2:
                return t.x.tell(number());
            case 3:
                return t.x.drop();
            case 4:
                return t.x.make(random.nextInt(7) - 1, random.nextInt(6), random.nextInt(6));
            case 5:
                return random.nextInt(20) == 0 ? t.x.clear() : 0;
            case 6:
                return t.x.input(random.nextInt(6) - 1, number());
            case 7:
                return t.x.output(random.nextInt(6) - 1) + t.x.fault(random.nextInt(4) - 1);
            case 8:
                return told();
            case 9:
            case 10:
                return program();
            default:
                return t.x.call(random.nextInt(26) - 1);
        }
    }

    private int number() {
        return random.nextInt(4) == 0 ? random.nextInt() >> random.nextInt(20) : EDGES[random.nextInt(EDGES.length)];
    }

    private int told() {
        int many = random.nextInt(35);
        t.x.drop();
        for (int i = 0; i < many; i++) {
            t.x.tell(random.nextInt(3) == 0 ? i : random.nextInt(9));
        }
        return t.x.make(random.nextInt(2) * 3, 1, 1 + random.nextInt(2));
    }

    private int program() {
        StringBuilder text = new StringBuilder("{");
        for (int i = random.nextInt(12); i > 0; i--) {
            text.append(' ').append(WORDS[random.nextInt(WORDS.length)]);
        }
        int inputs = 1 + random.nextInt(4);
        return t.makeProgram(text.append(" }").toString(), inputs, 1 + random.nextInt(4));
    }
}
