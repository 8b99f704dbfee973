import java.nio.charset.StandardCharsets;
import java.util.Arrays;

/** An object under test, short ways to call it, and a count of the answers that were not due. */
final class Trial {
    static final int ONE = 65536;
    static final int MOST = 1 << 30;

    NumberFunctions x = new NumberFunctions();
    private int asked = 0;
    private int wrong = 0;
    private String sentence = "";

    void fresh() {
        x = new NumberFunctions();
    }

    /** What follows tests this sentence of the document, beginning with a new object. */
    void says(String words) {
        fresh();
        sentence = "\"" + words + "\": ";
    }

    void due(String what, long got, long want) {
        asked++;
        if (got != want) {
            wrong++;
            System.out.println(sentence + what + " answered " + got + ", due is " + want);
        }
    }

    void dueThrow(String what, Class<? extends RuntimeException> want, Runnable call) {
        asked++;
        Class<?> got = null;
        try {
            call.run();
        } catch (RuntimeException e) {
            got = e.getClass();
        }
        if (got != want) {
            wrong++;
            System.out.println(sentence + what + " threw " + got + ", due is " + want);
        }
    }

    void dueFault(String what, int fault, int place) {
        due(what + ": fault", x.fault(0), fault);
        due(what + ": place", x.fault(1), place);
    }

    /** The row is just these bytes: first those that are no twenty, since a full row has room for them only then. */
    void row(int... bytes) {
        x.cut(0);
        int odd = bytes.length % 20;
        if (odd > 0) {
            feed(bytes, 0);
            x.cut(odd);
        }
        for (int i = odd; i < bytes.length; i += 20) {
            feed(bytes, i);
        }
    }

    private void feed(int[] bytes, int from) {
        int[] part = new int[5];
        for (int k = 0; k < 20; k++) {
            int sign = from + k < bytes.length ? bytes[from + k] & 255 : 0;
            part[k / 4] = part[k / 4] << 8 | sign;
        }
        x.feed(part[0], part[1], part[2], part[3], part[4]);
    }

    void row(String text) {
        byte[] bytes = text.getBytes(StandardCharsets.ISO_8859_1);
        int[] signs = new int[bytes.length];
        for (int i = 0; i < bytes.length; i++) {
            signs[i] = bytes[i];
        }
        row(signs);
    }

    /** The telling is just these numbers. */
    void tell(int... numbers) {
        x.drop();
        for (int number : numbers) {
            x.tell(number);
        }
    }

    /** The telling is that of a program that cuts nothing. */
    void tellWide(int pairs) {
        x.drop();
        for (int i = 0; i < pairs; i++) {
            x.tell(-MOST);
            x.tell(MOST);
        }
    }

    int makeProgram(String text, int inputs, int outputs) {
        row(text);
        tellWide(inputs + outputs);
        return x.make(4, inputs, outputs);
    }

    void inputs(int... numbers) {
        for (int i = 0; i < numbers.length; i++) {
            x.input(i, numbers[i]);
        }
    }

    void dueOutputs(String what, int f, int... numbers) {
        due(what + ": call", x.call(f), numbers.length);
        dueFault(what, NumberFunctions.NONE, NumberFunctions.NONE);
        for (int i = 0; i < 4; i++) {
            due(what + ": output " + i, x.output(i), i < numbers.length ? numbers[i] : 0);
        }
    }

    /** A new program of one input, 0, leaves these numbers above it; that input goes unseen. */
    void dueGives(String words, int... numbers) {
        dueGivesFrom(0, "{pop " + words + "}", numbers);
    }

    /** A new program of two inputs and one output gives this. */
    void dueOfTwo(int a, int b, String word, int number) {
        fresh();
        makeProgram("{" + word + "}", 2, 1);
        inputs(a, b);
        dueOutputs(a + " " + b + " " + word, 0, number);
    }

    /** A new program of two inputs and one output has this fault at its only word. */
    void dueFailsOfTwo(int a, int b, String word, int fault) {
        fresh();
        makeProgram("{" + word + "}", 2, 1);
        inputs(a, b);
        due(a + " " + b + " " + word + ": call", x.call(0), NumberFunctions.NONE);
        dueFault(a + " " + b + " " + word, fault, 1);
    }

    /** The telling is this one, and a make of it goes through, or its fault is TELLING. */
    void dueTold(boolean right, int kind, int inputs, int outputs, int... numbers) {
        String what = "kind " + kind + " of " + Arrays.toString(numbers);
        due(what + ": no function before", x.clear(), 0);
        tell(numbers);
        due(what, x.make(kind, inputs, outputs), right ? 0 : NumberFunctions.NONE);
        int none = NumberFunctions.NONE;
        dueFault(what, right ? none : NumberFunctions.TELLING, right ? none : 0);
        due(what + ": left in the telling", x.drop(), right ? 0 : numbers.length);
        due(what + ": functions", x.clear(), right ? 1 : 0);
    }

    /** A new program of one input gives these outputs. */
    void dueGivesFrom(int number, String text, int... numbers) {
        fresh();
        due(text + ": make", makeProgram(text, 1, numbers.length), 0);
        inputs(number);
        dueOutputs(text + " of " + number, 0, numbers);
    }

    /** A new program of one input, 0, and one output has this fault when it is called. */
    void dueFails(String text, int fault, int place) {
        fresh();
        due(text + ": make", makeProgram(text, 1, 1), 0);
        due(text + ": call", x.call(0), NumberFunctions.NONE);
        dueFault(text, fault, place);
    }

    /** The text is no program. */
    void dueRefused(String text, int fault, int place) {
        fresh();
        String shown = text.length() > 60 ? text.substring(0, 60) + ".." : text;
        due(shown + ": make", makeProgram(text, 1, 1), NumberFunctions.NONE);
        dueFault(shown, fault, place);
        due(shown + ": the telling stays", x.drop(), 4);
        due(shown + ": no function", x.clear(), 0);
    }

    void dueRead(String text) {
        fresh();
        String shown = text.length() > 60 ? text.substring(0, 60) + ".." : text;
        due(shown + ": make", makeProgram(text, 1, 1), 0);
        dueFault(shown, NumberFunctions.NONE, NumberFunctions.NONE);
    }

    static String times(int many, String text) {
        return text.repeat(many);
    }

    static int[] joined(int[]... rows) {
        return Arrays.stream(rows).flatMapToInt(Arrays::stream).toArray();
    }

    void end() {
        System.out.println(asked + " answers, " + wrong + " not as due");
        System.exit(wrong == 0 && asked > 0 ? 0 : 1);
    }
}
