import java.util.Arrays;

/**
 * Functions from numbers to numbers, told by tables of samples, by powers, stitched of others, or
 * by small programs. All numbers are whole, in 65,536ths.
 */
public final class NumberFunctions {
    public static final int NONE = -1;
    public static final int TELLING = 1;
    public static final int ROW = 2;
    public static final int NUMBER = 3;
    public static final int WORD = 4;
    public static final int MANY = 5;
    public static final int DEEP = 6;
    public static final int SHAPE = 7;
    public static final int FULL = 8;
    public static final int EMPTY = 9;
    public static final int SORT = 10;
    public static final int WHOLE = 11;
    public static final int AMOUNT = 12;
    public static final int ZERO = 13;
    public static final int COUNT = 14;

    private static final int ONE = 65536;
    private static final int LARGEST = 1 << 30;

    private static final int ROW_LIMIT = 8192;
    private static final int TELLING_LIMIT = 96;
    private static final int FUNCTION_LIMIT = 24;
    private static final int PORT_LIMIT = 4;
    private static final int SAMPLED_INPUT_LIMIT = 3;
    private static final int SIZE_LIMIT = 64;
    private static final int POWER_LIMIT = 16;
    private static final int PART_LIMIT = 8;
    private static final int STACK_LIMIT = 60;
    private static final int WORD_LIMIT = 400;
    private static final int DEPTH_LIMIT = 12;
    private static final int SHIFT_LIMIT = 31;
    private static final int NUMERAL_LIMIT = 16383;
    private static final int FRACTION_DIGITS = 9;
    private static final long FRACTION_PARTS = 1000000000L;

    private static final int SAMPLES_KIND = 0;
    private static final int POWERS_KIND = 2;
    private static final int STITCHED_KIND = 3;
    private static final int PROGRAM_KIND = 4;

    // How the telling of each kind is laid out.
    private static final int SAMPLED_INPUT_NUMBERS = 5;
    private static final int SAMPLED_OUTPUT_NUMBERS = 4;
    private static final int POWERS_HEAD = 3;
    private static final int STITCHED_HEAD = 3;

    // What the words of programs take and give, for Machine.
    private static final int MARKS = 0;
    private static final int CONSTANTS = 1;
    private static final int ONE_NUMBER = 2;
    private static final int TWO_NUMBERS = 3;
    private static final int TWO_WHOLES = 4;
    private static final int COMPARISONS = 5;
    private static final int LOGIC = 6;
    private static final int MOVES = 7;
    private static final int COUNTED_MOVES = 8;
    private static final int CHOICES = 9;

    private final byte[] row = new byte[ROW_LIMIT];
    private int rowLength = 0;
    private final Telling telling = new Telling();
    private final Function[] functions = new Function[FUNCTION_LIMIT];
    private int functionCount = 0;
    private final int[] inputNumbers = new int[PORT_LIMIT];
    private final int[] outputNumbers = new int[PORT_LIMIT];
    // A copy of the inputs for one call, since stitched functions put others in their place.
    private final int[] given = new int[PORT_LIMIT];
    private final Fault lastFault = new Fault();
    private final Reader reader = new Reader();
    private final Machine machine = new Machine();

    public NumberFunctions() {
    }

    public int feed(int a, int b, int c, int d, int e) {
        if (rowLength + 20 > ROW_LIMIT) {
            return NONE;
        }
        appendBytes(a);
        appendBytes(b);
        appendBytes(c);
        appendBytes(d);
        appendBytes(e);
        return rowLength;
    }

    public int cut(int many) throws IllegalArgumentException {
        if (many < 0) {
            throw new IllegalArgumentException("the row cannot have fewer than no bytes");
        }
        int gone = Math.max(rowLength - many, 0);
        rowLength -= gone;
        return gone;
    }

    public int tell(int number) throws IllegalArgumentException, IllegalStateException {
        if (!isNumber(number)) {
            throw new IllegalArgumentException("not a number of -2^30 to 2^30");
        }
        if (telling.count >= TELLING_LIMIT) {
            throw new IllegalStateException("the telling is full");
        }
        telling.numbers[telling.count] = number;
        telling.count++;
        return telling.count;
    }

    public int drop() {
        int had = telling.count;
        telling.count = 0;
        return had;
    }

    public int make(int kind, int inputs, int outputs)
            throws IllegalArgumentException, IllegalStateException {
        if (inputs < 1 || inputs > inputLimit(kind)) {
            throw new IllegalArgumentException("no such kind, or not of so many inputs");
        }
        if (outputs < 1 || outputs > PORT_LIMIT) {
            throw new IllegalArgumentException("not of so many outputs");
        }
        if (functionCount >= FUNCTION_LIMIT) {
            throw new IllegalStateException("there are as many functions as there can be");
        }
        lastFault.set(NONE, NONE);
        Function function = built(kind, inputs, outputs);
        if (function == null) {
            return NONE;
        }
        telling.count = 0;
        functions[functionCount] = function;
        functionCount++;
        return functionCount - 1;
    }

    public int clear() {
        int had = functionCount;
        for (int i = 0; i < FUNCTION_LIMIT; i++) {
            functions[i] = null;
        }
        functionCount = 0;
        return had;
    }

    public int input(int i, int number) throws IllegalArgumentException {
        if (i < 0 || i >= PORT_LIMIT || !isNumber(number)) {
            throw new IllegalArgumentException("no such input, or not a number of -2^30 to 2^30");
        }
        int was = inputNumbers[i];
        inputNumbers[i] = number;
        return was;
    }

    public int call(int f) throws IndexOutOfBoundsException {
        if (f < 0 || f >= functionCount || functions[f] == null) {
            throw new IndexOutOfBoundsException("there is no such function");
        }
        System.arraycopy(inputNumbers, 0, given, 0, PORT_LIMIT);
        lastFault.set(NONE, NONE);
        Function function = functions[f];
        function.evaluate(given, outputNumbers, lastFault);
        if (lastFault.what != NONE) {
            return NONE;
        }
        for (int i = function.outputs; i < PORT_LIMIT; i++) {
            outputNumbers[i] = 0;
        }
        return function.outputs;
    }

    public int output(int i) throws IllegalArgumentException {
        if (i < 0 || i >= PORT_LIMIT) {
            throw new IllegalArgumentException("no such output");
        }
        return outputNumbers[i];
    }

    public int fault(int what) {
        switch (what) {
            case 0:
                return lastFault.what;
            case 1:
                return lastFault.place;
            default:
                return NONE;
        }
    }

    private static boolean isNumber(int number) {
        return number >= -LARGEST && number <= LARGEST;
    }

    private void appendBytes(int four) {
        for (int shift = 24; shift >= 0 && rowLength < ROW_LIMIT; shift -= 8) {
            row[rowLength] = (byte) (four >>> shift);
            rowLength++;
        }
    }

    /** 0 for what is no kind, so that no number of inputs is right for it. */
    private static int inputLimit(int kind) {
        switch (kind) {
            case SAMPLES_KIND:
                return SAMPLED_INPUT_LIMIT;
            case POWERS_KIND:
            case STITCHED_KIND:
                return 1;
            case PROGRAM_KIND:
                return PORT_LIMIT;
            default:
                return 0;
        }
    }

    /** The function told, or null, with the reason in lastFault. */
    private Function built(int kind, int inputs, int outputs) {
        if (!isTold(kind, inputs, outputs)) {
            lastFault.set(TELLING, 0);
            return null;
        }
        int[] terms = Arrays.copyOf(telling.numbers, telling.count);
        switch (kind) {
            case SAMPLES_KIND:
                return builtSamples(inputs, outputs, terms);
            case POWERS_KIND:
                return new Powers(outputs, terms);
            case STITCHED_KIND:
                return new Stitched(outputs, terms, functions);
            default:
                reader.read(row, rowLength, lastFault);
                return lastFault.what != NONE
                        ? null : new Program(inputs, outputs, terms, reader, machine);
        }
    }

    private boolean isTold(int kind, int inputs, int outputs) {
        switch (kind) {
            case SAMPLES_KIND:
                return telling.saysSamples(inputs, outputs);
            case POWERS_KIND:
                return telling.saysPowers(outputs);
            case STITCHED_KIND:
                return telling.saysStitched(outputs, functions, functionCount);
            default:
                return telling.saysProgram(inputs, outputs);
        }
    }

    private Function builtSamples(int inputs, int outputs, int[] terms) {
        int needed = Samples.bytesNeeded(inputs, outputs, terms);
        if (needed > rowLength) {
            lastFault.set(ROW, needed);
            return null;
        }
        return new Samples(inputs, outputs, terms, Arrays.copyOf(row, needed));
    }

    /** What the last make or call had against it. */
    static final class Fault {
        int what = NONE;
        int place = NONE;

        void set(int newWhat, int newPlace) {
            what = newWhat;
            place = newPlace;
        }
    }

    /** Arithmetic in 65,536ths. */
    static final class Numbers {
        static long within(long x, long low, long high) {
            return Math.max(low, Math.min(high, x));
        }

        static int number(long x) {
            if (x > LARGEST) {
                return LARGEST;
            }
            return x < -LARGEST ? -LARGEST : (int) x;
        }

        static int times(int a, int b) {
            // The shift rounds down for products below 0 too.
            return number(((long) a * b) >> 16);
        }

        /** Only for b other than 0. */
        static int over(int a, int b) {
            return b == 0 ? 0 : number(Math.floorDiv((long) a * ONE, (long) b));
        }

        /** x is in p..q, below 2^32 long, and r..s at most 2^31 long, so the product fits. */
        static int laid(long x, long p, long q, long r, long s) {
            if (p == q) {
                return number(r);
            }
            return number(r + Math.floorDiv((x - p) * (s - r), q - p));
        }

        static int floor(int a) {
            return a & -ONE;
        }

        static int truncate(int a) {
            return a < 0 ? -floor(-a) : floor(a);
        }

        /** The greatest whose square, rounded down but not cut, is not above a. */
        static int root(int a) {
            long root = 0;
            for (int bit = 23; bit >= 0; bit--) {
                long candidate = root + (1L << bit);
                if ((candidate * candidate) >> 16 <= a) {
                    root = candidate;
                }
            }
            return (int) root;
        }
    }

    /** The numbers told for the next function, and whether they are those that its kind wants. */
    static final class Telling {
        final int[] numbers = new int[TELLING_LIMIT];
        int count = 0;

        boolean saysSamples(int inputs, int outputs) {
            int bits = SAMPLED_INPUT_NUMBERS * inputs;
            if (count != bits + 1 + SAMPLED_OUTPUT_NUMBERS * outputs || !isSampleBits(numbers[bits])) {
                return false;
            }
            for (int i = 0; i < inputs; i++) {
                int at = SAMPLED_INPUT_NUMBERS * i;
                if (!isPair(at) || !isOneOf(at + 2, 1, SIZE_LIMIT)) {
                    return false;
                }
            }
            for (int o = 0; o < outputs; o++) {
                if (!isPair(bits + 1 + SAMPLED_OUTPUT_NUMBERS * o)) {
                    return false;
                }
            }
            return true;
        }

        boolean saysPowers(int outputs) {
            return count == POWERS_HEAD + 2 * outputs && isPair(0) && isOneOf(2, 0, POWER_LIMIT);
        }

        boolean saysStitched(int outputs, Function[] functions, int functionCount) {
            if (count < STITCHED_HEAD || !isPair(0) || !isOneOf(2, 1, PART_LIMIT)) {
                return false;
            }
            int parts = numbers[2];
            if (count != STITCHED_HEAD + parts + (parts - 1) + 2 * parts) {
                return false;
            }
            for (int k = 0; k < parts; k++) {
                int f = numbers[STITCHED_HEAD + k];
                if (f < 0 || f >= functionCount || !isPart(functions[f], outputs)) {
                    return false;
                }
            }
            return areBounds(STITCHED_HEAD + parts, parts - 1);
        }

        boolean saysProgram(int inputs, int outputs) {
            int pairs = inputs + outputs;
            if (count != 2 * pairs) {
                return false;
            }
            for (int i = 0; i < pairs; i++) {
                if (!isPair(2 * i)) {
                    return false;
                }
            }
            return true;
        }

        private boolean areBounds(int from, int many) {
            int before = numbers[0];
            for (int k = 0; k < many; k++) {
                int bound = numbers[from + k];
                if (bound <= before || bound >= numbers[1]) {
                    return false;
                }
                before = bound;
            }
            return true;
        }

        private boolean isPair(int at) {
            return numbers[at] <= numbers[at + 1];
        }

        private boolean isOneOf(int at, int least, int most) {
            return numbers[at] >= least && numbers[at] <= most;
        }

        private static boolean isPart(Function function, int outputs) {
            return function != null && function.inputs == 1 && function.outputs == outputs;
        }

        private static boolean isSampleBits(int bits) {
            switch (bits) {
                case 1:
                case 2:
                case 4:
                case 8:
                case 12:
                case 16:
                    return true;
                default:
                    return false;
            }
        }
    }

    /** A function that has been made; terms are the numbers that told it. */
    abstract static class Function {
        final int inputs;
        final int outputs;
        final int[] terms;

        Function(int inputs, int outputs, int[] terms) {
            this.inputs = inputs;
            this.outputs = outputs;
            this.terms = terms;
        }

        /** Fills the results, or none of them and the fault. */
        abstract void evaluate(int[] given, int[] results, Fault fault);

        /** x cut to the pair low, high that begins among the terms there. */
        final int withinPair(int x, int at) {
            return (int) Numbers.within(x, terms[at], terms[at + 1]);
        }
    }

    static final class Samples extends Function {
        private final byte[] bytes;
        private final int bits;
        // For one value: the whole part and the rest of each input, and the samples about it.
        private final int[] wholes = new int[SAMPLED_INPUT_LIMIT];
        private final int[] rests = new int[SAMPLED_INPUT_LIMIT];
        private final long[] corners = new long[1 << SAMPLED_INPUT_LIMIT];

        Samples(int inputs, int outputs, int[] terms, byte[] bytes) {
            super(inputs, outputs, terms);
            this.bytes = bytes;
            this.bits = terms[SAMPLED_INPUT_NUMBERS * inputs];
        }

        static int bytesNeeded(int inputs, int outputs, int[] terms) {
            int needed = outputs * terms[SAMPLED_INPUT_NUMBERS * inputs];
            for (int i = 0; i < inputs; i++) {
                needed *= terms[SAMPLED_INPUT_NUMBERS * i + 2];
            }
            return (needed + 7) / 8;
        }

        void evaluate(int[] given, int[] results, Fault fault) {
            for (int i = 0; i < inputs; i++) {
                locate(i, given[i]);
            }
            long highest = ((1L << bits) - 1) * ONE;
            for (int o = 0; o < outputs; o++) {
                int at = SAMPLED_INPUT_NUMBERS * inputs + 1 + SAMPLED_OUTPUT_NUMBERS * o;
                int decoded = Numbers.laid(between(o), 0, highest, terms[at + 2], terms[at + 3]);
                results[o] = withinPair(decoded, at);
            }
        }

        private void locate(int i, int x) {
            int at = SAMPLED_INPUT_NUMBERS * i;
            int domained = withinPair(x, at);
            int encoded = Numbers.laid(domained, terms[at], terms[at + 1], terms[at + 3], terms[at + 4]);
            int last = terms[at + 2] - 1;
            int place = (int) Numbers.within(encoded, 0, (long) last * ONE);
            wholes[i] = place / ONE;
            rests[i] = place % ONE;
        }

        private long between(int output) {
            int left = 1 << inputs;
            for (int corner = 0; corner < left; corner++) {
                corners[corner] = sample(placeOf(corner) * outputs + output) * ONE;
            }
            // Neighbours differ in the first input that is left, so each round does away with one.
            for (int i = 0; i < inputs; i++) {
                left /= 2;
                for (int k = 0; k < left; k++) {
                    long a = corners[2 * k];
                    long b = corners[2 * k + 1];
                    corners[k] = a + (((b - a) * rests[i]) >> 16);
                }
            }
            return corners[0];
        }

        /** Bit i of a corner says whether it is the next place of input i, where there is one. */
        private int placeOf(int corner) {
            int place = 0;
            for (int i = inputs - 1; i >= 0; i--) {
                int size = terms[SAMPLED_INPUT_NUMBERS * i + 2];
                int next = wholes[i] + ((corner >> i) & 1);
                place = place * size + Math.min(next, size - 1);
            }
            return place;
        }

        private long sample(int index) {
            long value = 0;
            int from = index * bits;
            for (int k = 0; k < bits; k++) {
                value = value * 2 + bitAt(from + k);
            }
            return value;
        }

        private int bitAt(int at) {
            if (at < 0 || at / 8 >= bytes.length) {
                return 0;
            }
            return (bytes[at / 8] >> (7 - at % 8)) & 1;
        }
    }

    static final class Powers extends Function {
        Powers(int outputs, int[] terms) {
            super(1, outputs, terms);
        }

        void evaluate(int[] given, int[] results, Fault fault) {
            int x = withinPair(given[0], 0);
            int power = ONE;
            for (int k = 0; k < terms[2]; k++) {
                power = Numbers.times(power, x);
            }
            for (int o = 0; o < outputs; o++) {
                long c = terms[POWERS_HEAD + 2 * o];
                long d = terms[POWERS_HEAD + 2 * o + 1];
                results[o] = Numbers.number(c + Numbers.times(power, Numbers.number(d - c)));
            }
        }
    }

    static final class Stitched extends Function {
        private final Function[] parts;

        /** The telling must have been found right for these functions. */
        Stitched(int outputs, int[] terms, Function[] functions) {
            super(1, outputs, terms);
            parts = new Function[terms[2]];
            for (int k = 0; k < parts.length; k++) {
                parts[k] = functions[terms[STITCHED_HEAD + k]];
            }
        }

        /**
         * Goes on to the part's function with what that one is given. Parts were made before what
         * is stitched of them, so this goes no deeper than there are functions.
         */
        void evaluate(int[] given, int[] results, Fault fault) {
            int x = withinPair(given[0], 0);
            int bounds = STITCHED_HEAD + parts.length;
            int last = parts.length - 1;
            int part = 0;
            while (part < last && terms[bounds + part] <= x) {
                part++;
            }
            int from = part == 0 ? terms[0] : terms[bounds + part - 1];
            int to = part == last ? terms[1] : terms[bounds + part];
            int encoded = bounds + last + 2 * part;
            given[0] = Numbers.laid(x, from, to, terms[encoded], terms[encoded + 1]);
            Function function = parts[part];
            if (function != null) {
                function.evaluate(given, results, fault);
            }
        }
    }

    static final class Program extends Function {
        private final int count;
        private final Word[] words;
        private final int[] numbers;
        private final int[] onward;
        private final int[] otherwise;
        private final Machine machine;

        Program(int inputs, int outputs, int[] terms, Reader read, Machine machine) {
            super(inputs, outputs, terms);
            this.machine = machine;
            count = read.count;
            words = new Word[count];
            System.arraycopy(read.words, 0, words, 0, count);
            numbers = Arrays.copyOf(read.numbers, count);
            onward = Arrays.copyOf(read.onward, count);
            otherwise = Arrays.copyOf(read.otherwise, count);
        }

        void evaluate(int[] given, int[] results, Fault fault) {
            machine.size = 0;
            for (int i = 0; i < inputs; i++) {
                machine.give(0, withinPair(given[i], 2 * i), false);
            }
            int at = 0;
            // No word is done twice, so there are no more rounds than words.
            for (int round = 0; round < count && at < count; round++) {
                Word word = words[at];
                if (word == null) {
                    break;
                }
                int wrong = machine.perform(word, numbers[at]);
                if (wrong != NONE) {
                    fault.set(wrong, at);
                    return;
                }
                boolean declined = word.group == CHOICES && !machine.chosen;
                at = declined ? otherwise[at] : onward[at];
            }
            takeResults(results, fault);
        }

        private void takeResults(int[] results, Fault fault) {
            int wrong = machine.faultAtEnd(outputs);
            if (wrong != NONE) {
                fault.set(wrong, count);
                return;
            }
            for (int o = 0; o < outputs; o++) {
                results[o] = withinPair(machine.values[o], 2 * (inputs + o));
            }
        }
    }

    /** The words of programs, with how many values each takes off the stack at least. */
    enum Word {
        OPEN("{", 0, MARKS),
        CLOSE("}", 0, MARKS),
        NUMERAL("", 0, CONSTANTS),
        TRUE("true", 0, CONSTANTS),
        FALSE("false", 0, CONSTANTS),
        ABS("abs", 1, ONE_NUMBER),
        NEG("neg", 1, ONE_NUMBER),
        CEILING("ceiling", 1, ONE_NUMBER),
        FLOOR("floor", 1, ONE_NUMBER),
        ROUND("round", 1, ONE_NUMBER),
        TRUNCATE("truncate", 1, ONE_NUMBER),
        CVI("cvi", 1, ONE_NUMBER),
        CVR("cvr", 1, ONE_NUMBER),
        SQRT("sqrt", 1, ONE_NUMBER),
        ADD("add", 2, TWO_NUMBERS),
        SUB("sub", 2, TWO_NUMBERS),
        MUL("mul", 2, TWO_NUMBERS),
        DIV("div", 2, TWO_NUMBERS),
        IDIV("idiv", 2, TWO_WHOLES),
        MOD("mod", 2, TWO_WHOLES),
        BITSHIFT("bitshift", 2, TWO_WHOLES),
        EQ("eq", 2, COMPARISONS),
        NE("ne", 2, COMPARISONS),
        GT("gt", 2, COMPARISONS),
        GE("ge", 2, COMPARISONS),
        LT("lt", 2, COMPARISONS),
        LE("le", 2, COMPARISONS),
        AND("and", 2, LOGIC),
        OR("or", 2, LOGIC),
        XOR("xor", 2, LOGIC),
        NOT("not", 1, LOGIC),
        POP("pop", 1, MOVES),
        EXCH("exch", 2, MOVES),
        DUP("dup", 1, MOVES),
        COPY("copy", 1, COUNTED_MOVES),
        INDEX("index", 1, COUNTED_MOVES),
        ROLL("roll", 2, COUNTED_MOVES),
        IF("if", 1, CHOICES),
        IFELSE("ifelse", 1, CHOICES);

        private static final Word[] ALL = values();

        final String text;
        final int takes;
        final int group;

        Word(String text, int takes, int group) {
            this.text = text;
            this.takes = takes;
            this.group = group;
        }

        /** The word that these bytes spell, or null. */
        static Word spelled(byte[] bytes, int start, int end) {
            for (Word word : ALL) {
                if (word.text.length() == end - start && word.isAt(bytes, start)) {
                    return word;
                }
            }
            return null;
        }

        private boolean isAt(byte[] bytes, int start) {
            for (int k = 0; k < text.length(); k++) {
                if (bytes[start + k] != text.charAt(k)) {
                    return false;
                }
            }
            return true;
        }
    }

    /** Reads a row as a program: its words, and where to go on behind each. */
    static final class Reader {
        final Word[] words = new Word[WORD_LIMIT];
        final int[] numbers = new int[WORD_LIMIT];
        // Where to go on; otherwise is for if and ifelse that are not true.
        final int[] onward = new int[WORD_LIMIT];
        final int[] otherwise = new int[WORD_LIMIT];
        int count;

        // For each depth: where its { is, and the { of what waits in it for if or ifelse.
        private final int[] opened = new int[DEPTH_LIMIT + 1];
        private final int[] waiting = new int[DEPTH_LIMIT + 1];
        private final int[] first = new int[DEPTH_LIMIT + 1];
        private final int[] second = new int[DEPTH_LIMIT + 1];
        private int depth;
        private byte[] bytes;
        private int length;
        private int numeral;

        void read(byte[] row, int rowLength, Fault fault) {
            bytes = row;
            length = rowLength;
            count = 0;
            depth = 0;
            waiting[0] = 0;
            int start = wordStart(0);
            // One round more than there can be words: that one finds MANY.
            for (int round = 0; round <= WORD_LIMIT && start < length; round++) {
                int end = wordEnd(start);
                int wrong = take(start, end);
                if (wrong != NONE) {
                    fault.set(wrong, start);
                    return;
                }
                start = wordStart(end);
            }
            if (count == 0 || depth > 0) {
                fault.set(SHAPE, length);
            }
        }

        private int wordStart(int from) {
            int at = from;
            while (at < length && signAt(at) <= ' ') {
                at++;
            }
            return at;
        }

        private int wordEnd(int start) {
            if (isBrace(signAt(start))) {
                return start + 1;
            }
            int at = start + 1;
            while (at < length && signAt(at) > ' ' && !isBrace(signAt(at))) {
                at++;
            }
            return at;
        }

        private int signAt(int at) {
            return at < 0 || at >= length ? 0 : bytes[at] & 255;
        }

        private static boolean isBrace(int sign) {
            return sign == '{' || sign == '}';
        }

        private int take(int start, int end) {
            if (count >= WORD_LIMIT) {
                return MANY;
            }
            Word word = Word.spelled(bytes, start, end);
            if (isMisplaced(word)) {
                return SHAPE;
            }
            if (word == Word.OPEN && depth >= DEPTH_LIMIT) {
                return DEEP;
            }
            numeral = 0;
            if (word == null) {
                int wrong = readNumeral(start, end);
                if (wrong != NONE) {
                    return wrong;
                }
                word = Word.NUMERAL;
            }
            put(word);
            return NONE;
        }

        private boolean isMisplaced(Word word) {
            if (depth == 0) {
                return word != Word.OPEN || count > 0;
            }
            if (word == Word.IF) {
                return waiting[depth] != 1;
            }
            if (word == Word.IFELSE) {
                return waiting[depth] != 2;
            }
            if (word == Word.OPEN) {
                return waiting[depth] == 2;
            }
            return waiting[depth] != 0;
        }

        private void put(Word word) {
            int at = count;
            count++;
            words[at] = word;
            numbers[at] = numeral;
            onward[at] = count;
            otherwise[at] = count;
            if (word == Word.OPEN) {
                depth++;
                opened[depth] = at;
                waiting[depth] = 0;
            } else if (word == Word.CLOSE) {
                close();
            } else if (word.group == CHOICES) {
                joinChoice(at);
            }
        }

        private void close() {
            int start = opened[depth];
            depth--;
            if (waiting[depth] == 0) {
                first[depth] = start;
            } else {
                second[depth] = start;
            }
            waiting[depth]++;
        }

        /** The first { goes on at its if or ifelse, which goes back into one; each } goes on behind. */
        private void joinChoice(int at) {
            int start = first[depth];
            onward[start] = at;
            onward[at] = start + 1;
            onward[at - 1] = at + 1;
            if (waiting[depth] == 2) {
                int otherStart = second[depth];
                onward[otherStart - 1] = at + 1;
                otherwise[at] = otherStart + 1;
            }
            waiting[depth] = 0;
        }

        /** NONE, and the number is in numeral; or what is wrong with the word. */
        private int readNumeral(int start, int end) {
            boolean signed = signAt(start) == '+' || signAt(start) == '-';
            int from = signed ? start + 1 : start;
            int point = digitsEnd(from, end);
            boolean pointed = point < end && signAt(point) == '.';
            int last = pointed ? digitsEnd(point + 1, end) : point;
            if (point == from || last == point + 1 || last != end) {
                return WORD;
            }
            int whole = wholePart(from, point);
            if (whole > NUMERAL_LIMIT) {
                return NUMBER;
            }
            int distance = whole * ONE + fractionPart(point + 1, end);
            numeral = signAt(start) == '-' ? -distance : distance;
            return NONE;
        }

        private int digitsEnd(int from, int end) {
            int at = from;
            while (at < end && signAt(at) >= '0' && signAt(at) <= '9') {
                at++;
            }
            return at;
        }

        /** Held just above the limit, since the digits may be thousands. */
        private int wholePart(int from, int end) {
            int whole = 0;
            for (int at = from; at < end; at++) {
                whole = Math.min(whole * 10 + signAt(at) - '0', NUMERAL_LIMIT + 1);
            }
            return whole;
        }

        private int fractionPart(int from, int end) {
            long digits = 0;
            for (int at = from; at < from + FRACTION_DIGITS; at++) {
                digits = digits * 10 + (at < end ? signAt(at) - '0' : 0);
            }
            return (int) (digits * ONE / FRACTION_PARTS);
        }
    }

    /** The stack, and what each word does to it. Truths are held as 1 and 0. */
    static final class Machine {
        final int[] values = new int[STACK_LIMIT];
        final boolean[] truths = new boolean[STACK_LIMIT];
        int size;
        // What the last if or ifelse took.
        boolean chosen;

        /** NONE, or the fault that the word has. */
        int perform(Word word, int numeral) {
            if (size < word.takes) {
                return EMPTY;
            }
            switch (word.group) {
                case CONSTANTS:
                    return constant(word, numeral);
                case ONE_NUMBER:
                    return oneNumber(word);
                case TWO_NUMBERS:
                    return twoNumbers(word);
                case TWO_WHOLES:
                    return twoWholes(word);
                case COMPARISONS:
                    return comparison(word);
                case LOGIC:
                    return word == Word.NOT ? negation() : logic(word);
                case MOVES:
                    return move(word);
                case COUNTED_MOVES:
                    return word == Word.ROLL ? roll() : reach(word);
                case CHOICES:
                    return choice();
                default:
                    return NONE;
            }
        }

        /** Puts a value in the place of the upper ones that the word took. */
        int give(int taken, long value, boolean truth) {
            int at = size - taken;
            if (at < 0) {
                return EMPTY;
            }
            if (at >= STACK_LIMIT) {
                return FULL;
            }
            values[at] = Numbers.number(value);
            truths[at] = truth;
            size = at + 1;
            return NONE;
        }

        int faultAtEnd(int outputs) {
            if (size != outputs) {
                return COUNT;
            }
            for (int i = 0; i < size; i++) {
                if (truths[i]) {
                    return SORT;
                }
            }
            return NONE;
        }

        private int giveTruth(int taken, boolean truth) {
            return give(taken, truth ? 1 : 0, true);
        }

        private int constant(Word word, int numeral) {
            return word == Word.NUMERAL ? give(0, numeral, false) : giveTruth(0, word == Word.TRUE);
        }

        private int oneNumber(Word word) {
            int a = values[size - 1];
            if (truths[size - 1]) {
                return SORT;
            }
            if (word == Word.SQRT && a < 0) {
                return AMOUNT;
            }
            return give(1, ofOneNumber(word, a), false);
        }

        private static int ofOneNumber(Word word, int a) {
            switch (word) {
                case ABS:
                    return Math.abs(a);
                case NEG:
                    return -a;
                case CEILING:
                    return -Numbers.floor(-a);
                case FLOOR:
                    return Numbers.floor(a);
                case ROUND:
                    return Numbers.floor(a + ONE / 2);
                case TRUNCATE:
                case CVI:
                    return Numbers.truncate(a);
                case SQRT:
                    return Numbers.root(a);
                default:
                    return a;
            }
        }

        private int twoNumbers(Word word) {
            int a = values[size - 2];
            int b = values[size - 1];
            if (truths[size - 2] || truths[size - 1]) {
                return SORT;
            }
            if (word == Word.DIV && b == 0) {
                return ZERO;
            }
            return give(2, ofTwoNumbers(word, a, b), false);
        }

        private static long ofTwoNumbers(Word word, int a, int b) {
            switch (word) {
                case ADD:
                    return (long) a + b;
                case SUB:
                    return (long) a - b;
                case MUL:
                    return Numbers.times(a, b);
                default:
                    return Numbers.over(a, b);
            }
        }

        private int twoWholes(Word word) {
            int wrong = faultOfWholes(2);
            if (wrong != NONE) {
                return wrong;
            }
            int a = values[size - 2] / ONE;
            int b = values[size - 1] / ONE;
            if (word == Word.BITSHIFT) {
                return Math.abs(b) > SHIFT_LIMIT ? AMOUNT : giveWhole(2, shifted(a, b));
            }
            if (b == 0) {
                return ZERO;
            }
            return giveWhole(2, word == Word.IDIV ? a / b : a % b);
        }

        private static int shifted(int a, int by) {
            return by < 0 ? a >>> -by : a << by;
        }

        private int giveWhole(int taken, int whole) {
            return give(taken, (long) whole * ONE, false);
        }

        /** SORT or WHOLE, if the upper ones are not whole numbers. */
        private int faultOfWholes(int many) {
            int wrong = NONE;
            for (int at = size - many; at < size; at++) {
                if (truths[at]) {
                    return SORT;
                }
                if (values[at] % ONE != 0) {
                    wrong = WHOLE;
                }
            }
            return wrong;
        }

        private int comparison(Word word) {
            boolean firstTruth = truths[size - 2];
            boolean secondTruth = truths[size - 1];
            boolean ordered = word != Word.EQ && word != Word.NE;
            if (firstTruth != secondTruth || (ordered && firstTruth)) {
                return SORT;
            }
            return giveTruth(2, compared(word, values[size - 2], values[size - 1]));
        }

        private static boolean compared(Word word, int a, int b) {
            switch (word) {
                case EQ:
                    return a == b;
                case NE:
                    return a != b;
                case GT:
                    return a > b;
                case GE:
                    return a >= b;
                case LT:
                    return a < b;
                default:
                    return a <= b;
            }
        }

        private int logic(Word word) {
            int a = values[size - 2];
            int b = values[size - 1];
            if (truths[size - 2] && truths[size - 1]) {
                return giveTruth(2, combined(word, a, b) != 0);
            }
            int wrong = faultOfWholes(2);
            return wrong != NONE ? wrong : giveWhole(2, combined(word, a / ONE, b / ONE));
        }

        private static int combined(Word word, int a, int b) {
            switch (word) {
                case AND:
                    return a & b;
                case OR:
                    return a | b;
                default:
                    return a ^ b;
            }
        }

        private int negation() {
            int a = values[size - 1];
            if (truths[size - 1]) {
                return giveTruth(1, a == 0);
            }
            int wrong = faultOfWholes(1);
            return wrong != NONE ? wrong : giveWhole(1, ~(a / ONE));
        }

        private int move(Word word) {
            switch (word) {
                case POP:
                    size--;
                    return NONE;
                case EXCH:
                    reverse(size - 2, size);
                    return NONE;
                default:
                    return give(0, values[size - 1], truths[size - 1]);
            }
        }

        /** copy and index. */
        private int reach(Word word) {
            int wrong = faultOfWholes(1);
            if (wrong != NONE) {
                return wrong;
            }
            int many = values[size - 1] / ONE;
            int rest = size - 1;
            if (many < 0) {
                return AMOUNT;
            }
            if (word == Word.INDEX) {
                int at = rest - 1 - many;
                return at < 0 ? EMPTY : give(1, values[at], truths[at]);
            }
            return many > rest ? EMPTY : copyUpper(many, rest);
        }

        private int copyUpper(int many, int rest) {
            if (rest + many > STACK_LIMIT) {
                return FULL;
            }
            System.arraycopy(values, rest - many, values, rest, many);
            System.arraycopy(truths, rest - many, truths, rest, many);
            size = rest + many;
            return NONE;
        }

        private int roll() {
            int wrong = faultOfWholes(2);
            if (wrong != NONE) {
                return wrong;
            }
            int many = values[size - 2] / ONE;
            int turns = values[size - 1] / ONE;
            int rest = size - 2;
            if (many < 0) {
                return AMOUNT;
            }
            if (many > rest) {
                return EMPTY;
            }
            size = rest;
            if (many > 0) {
                turn(rest - many, Math.floorMod(turns, many));
            }
            return NONE;
        }

        /** All reversed, and then both sides again, is turned, without a second row. */
        private void turn(int from, int turns) {
            reverse(from, size);
            reverse(from, from + turns);
            reverse(from + turns, size);
        }

        private void reverse(int from, int end) {
            int low = from;
            int high = end - 1;
            while (low < high) {
                int value = values[low];
                boolean truth = truths[low];
                values[low] = values[high];
                truths[low] = truths[high];
                values[high] = value;
                truths[high] = truth;
                low++;
                high--;
            }
        }

        private int choice() {
            if (!truths[size - 1]) {
                return SORT;
            }
            size--;
            chosen = values[size] != 0;
            return NONE;
        }
    }
}
