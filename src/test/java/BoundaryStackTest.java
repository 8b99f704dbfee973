/** The sentences of "Terms" about the stack on which a program, kind 4, works. */
final class BoundaryStackTest {
    private static final int ONE = Trial.ONE;
    private static final int MOST = Trial.MOST;
    private static final int NONE = NumberFunctions.NONE;
    private static final int FULL = NumberFunctions.FULL;
    private static final int EMPTY = NumberFunctions.EMPTY;
    private static final int SORT = NumberFunctions.SORT;
    private static final int WHOLE = NumberFunctions.WHOLE;
    private static final int AMOUNT = NumberFunctions.AMOUNT;
    private static final int ZERO = NumberFunctions.ZERO;
    private static final int COUNT = NumberFunctions.COUNT;
    private static final String OF_ONE = "abs neg ceiling floor round truncate cvi cvr sqrt";
    private static final String OF_TWO = "add sub mul div idiv mod gt ge lt le bitshift";
    private static final String OF_TWO_ALIKE = "eq ne and or xor";

    public static void main(String[] args) {
        Trial t = new Trial();
        inputsAreCut(t);
        lastInputOnTop(t);
        inOrder(t);
        atMost60(t);
        fullBehindWhatWasTaken(t);
        fewerThanAWordTakes(t);
        wrongSort(t);
        emptyBeforeSort(t);
        placeIsTheWord(t);
        placeInStitched(t);
        mustBeWhole(t);
        outOfBounds(t);
        popExchDup(t);
        copy(t);
        index(t);
        roll(t);
        emptyBehindAmount(t);
        justTheOutputs(t);
        allNumbers(t);
        outputsAreCut(t);
        t.end();
    }

    /** Function 0 gives its four inputs, cut to -1 .. 1, 5 .. 5, 2 .. 9 and -9 .. -2. */
    private static void dueCut(Trial t) {
        int[][] rows = {{-2, 4, 1, -10, -1, 5, 2, -9}, {-1, 5, 2, -9, -1, 5, 2, -9}, {0, 6, 3, -8, 0, 5, 3, -8},
            {1, 0, 9, -2, 1, 5, 9, -2}, {2, -5, 10, -1, 1, 5, 9, -2}, {MOST, MOST, MOST, MOST, 1, 5, 9, -2},
            {-MOST, -MOST, -MOST, -MOST, -1, 5, 2, -9}};
        for (int[] row : rows) {
            t.inputs(row[0], row[1], row[2], row[3]);
            t.dueOutputs("cut", 0, row[4], row[5], row[6], row[7]);
        }
    }

    private static void inputsAreCut(Trial t) {
        t.says("Inputs are cut to their DOMAINS");
        t.row("{}");
        t.tell(-1, 1, 5, 5, 2, 9, -9, -2, -MOST, MOST, -MOST, MOST, -MOST, MOST, -MOST, MOST);
        t.due("make", t.x.make(4, 4, 4), 0);
        dueCut(t);
    }

    private static void lastInputOnTop(Trial t) {
        t.says("and lie on the STACK, the last one on top");
        for (int inputs = 1; inputs <= 4; inputs++) {
            t.fresh();
            t.makeProgram("{" + Trial.times(inputs - 1, "exch pop ") + "}", inputs, 1);
            t.inputs(1, 2, 3, 4);
            t.dueOutputs("the top of " + inputs, 0, inputs);
            t.makeProgram("{" + Trial.times(inputs - 1, "pop ") + "}", inputs, 1);
            t.dueOutputs("the lowest of " + inputs, 1, 1);
            t.makeProgram("{" + Trial.times(inputs, "pop ") + "pop}", inputs, 1);
            t.due("no more than " + inputs, t.x.call(2), NONE);
            t.dueFault("no more than " + inputs, EMPTY, inputs + 1);
        }
        t.says("words of one call leave nothing to the next");
        t.makeProgram("{1 2 3 true}", 1, 1);
        t.makeProgram("{}", 1, 1);
        t.due("four values too many", t.x.call(0), NONE);
        t.inputs(7);
        t.dueOutputs("the input alone", 1, 7);
    }

    private static void inOrder(Trial t) {
        t.says("words are done in order");
        t.dueGives("1 2 sub 3 mul", -3 * ONE);
        t.dueGives("1 2 3 sub mul", -ONE);
        t.dueFails("{ pop true abs 0 }", SORT, 3);
        t.dueFails("{ pop pop true abs }", EMPTY, 2);
    }

    /** The input is the first of the values. */
    private static String filledTo(int many) {
        return "{" + Trial.times(many - 1, "1 ");
    }

    private static String popsTo1(int many) {
        return Trial.times(many - 1, " pop") + "}";
    }

    private static void atMost60(Trial t) {
        t.says("STACK has at most 60 values, numbers and truths: more is FULL");
        t.dueGivesFrom(7, filledTo(60) + popsTo1(60), 7);
        t.dueGivesFrom(7, "{" + Trial.times(59, "true ") + popsTo1(60), 7);
        t.dueGivesFrom(7, "{" + Trial.times(59, "dup ") + popsTo1(60), 7);
        t.dueFails(filledTo(60) + "1}", FULL, 60);
        t.dueFails(filledTo(60) + "true}", FULL, 60);
        t.dueFails(filledTo(60) + "false}", FULL, 60);
        t.dueFails(filledTo(60) + "dup}", FULL, 60);
        t.dueFails("{" + Trial.times(60, "true ") + "}", FULL, 60);
        t.dueFails("{" + Trial.times(60, "dup ") + "}", FULL, 60);
        t.dueFails(filledTo(59) + "2 copy}", FULL, 60);
        t.dueFails(filledTo(60) + "true {2} if}", FULL, 60);
        t.dueFails(filledTo(59) + "true {2 2} if}", FULL, 62);
        t.dueFails("{ 1 3 copy }", EMPTY, 3);
        t.fresh();
        t.makeProgram("{" + Trial.times(56, "1 ") + Trial.times(56, "pop ") + "}", 4, 4);
        t.inputs(1, 2, 3, 4);
        t.dueOutputs("four inputs and 56 more", 0, 1, 2, 3, 4);
        t.makeProgram("{" + Trial.times(57, "1 ") + Trial.times(57, "pop ") + "}", 4, 4);
        t.due("four inputs and 57 more", t.x.call(1), NONE);
        t.dueFault("four inputs and 57 more", FULL, 57);
    }

    private static void fullBehindWhatWasTaken(Trial t) {
        t.says("FULL behind what the word took");
        for (String word : (OF_ONE + " not").split(" ")) {
            t.dueGivesFrom(7, filledTo(60) + word + popsTo1(60), 7);
        }
        for (String word : (OF_TWO + " " + OF_TWO_ALIKE).split(" ")) {
            t.dueGivesFrom(7, filledTo(60) + word + popsTo1(59), 7);
        }
        t.dueGivesFrom(7, filledTo(60) + "exch" + popsTo1(60), 7);
        t.dueGivesFrom(7, filledTo(60) + "index" + popsTo1(60), 7);
        t.dueGivesFrom(7, filledTo(60) + "copy" + popsTo1(60), 7);
        t.dueGivesFrom(7, filledTo(59) + "0 copy" + popsTo1(59), 7);
        t.dueGivesFrom(7, filledTo(30) + "30 copy" + popsTo1(60), 7);
        t.dueGivesFrom(7, filledTo(60) + "roll" + popsTo1(58), 7);
        t.dueGivesFrom(7, filledTo(59) + "true {pop} if" + popsTo1(58), 7);
        t.dueFails(filledTo(31) + "30 copy}", FULL, 32);
        t.dueFails(filledTo(59) + "60 copy}", EMPTY, 60);
        t.dueFails(filledTo(59) + "59 copy}", FULL, 60);
    }

    /** How many values each word takes. */
    private static void dueTakes(Trial t, int many, String words) {
        for (String word : words.split(" ")) {
            for (int have = 0; have < many; have++) {
                String text = "{ pop " + Trial.times(have, "1 ") + word + " }";
                t.dueFails(text, EMPTY, 2 + have);
            }
        }
    }

    private static void fewerThanAWordTakes(Trial t) {
        t.says("fewer than a word takes is EMPTY");
        dueTakes(t, 1, OF_ONE + " not pop dup copy index");
        dueTakes(t, 2, OF_TWO + " " + OF_TWO_ALIKE + " exch roll");
        t.dueFails("{ pop {} if }", EMPTY, 4);
        t.dueFails("{ pop {}{} ifelse }", EMPTY, 6);
    }

    private static void wrongSort(Trial t) {
        t.says("of the wrong sort SORT");
        for (String word : (OF_ONE + " copy index").split(" ")) {
            t.dueFails("{ pop true " + word + " }", SORT, 3);
            t.dueFails("{ pop false " + word + " }", SORT, 3);
        }
        for (String word : (OF_TWO + " roll").split(" ")) {
            t.dueFails("{ pop true 1 " + word + " }", SORT, 4);
            t.dueFails("{ pop 1 true " + word + " }", SORT, 4);
            t.dueFails("{ pop true true " + word + " }", SORT, 4);
            t.dueFails("{ pop 0 false " + word + " }", SORT, 4);
        }
        for (String word : OF_TWO_ALIKE.split(" ")) {
            t.dueFails("{ pop true 1 " + word + " }", SORT, 4);
            t.dueFails("{ pop 1 true " + word + " }", SORT, 4);
        }
        t.dueFails("{ {} if }", SORT, 3);
        t.dueFails("{ {} {} ifelse }", SORT, 5);
        t.says("pop, exch and dup take any sort");
        t.dueGives("1 true pop", ONE);
        t.dueGives("true 5 exch {6} if", 5 * ONE, 6 * ONE);
        t.dueGives("true dup {1} if exch {2} if", ONE, 2 * ONE);
    }

    private static void emptyBeforeSort(Trial t) {
        t.says("EMPTY before SORT");
        for (String word : (OF_TWO + " " + OF_TWO_ALIKE + " roll").split(" ")) {
            t.dueFails("{ pop true " + word + " }", EMPTY, 3);
        }
        t.dueFails("{ pop true exch }", EMPTY, 3);
    }

    private static void placeIsTheWord(Trial t) {
        t.says("The word that has it (from 0 on, { } counted, of the program that is done ..) is its place");
        t.dueFails("{add}", EMPTY, 1);
        t.dueFails("{1 true add}", SORT, 3);
        t.dueFails("{true {0 div} if}", ZERO, 4);
        t.dueFails("{false {1} {0 div} ifelse}", ZERO, 7);
        t.dueFails("{true {} if 0 div}", ZERO, 6);
        t.dueFails("{true {} {} ifelse 0 div}", ZERO, 8);
        t.dueFails("{false {1 2 3} if 0 div}", ZERO, 9);
        t.dueFails("{{} if}", SORT, 3);
        t.dueFails("{" + Trial.times(99, "dup pop ") + "0 0 div}", ZERO, 201);
        t.dueFails("{" + Trial.times(198, "dup pop ") + "pop pop}", EMPTY, 398);
        t.dueFails("{" + Trial.times(198, "dup pop ") + "dup dup}", COUNT, 400);
    }

    private static void placeInStitched(Trial t) {
        t.says("of STITCHED ones that at which they end");
        t.makeProgram("{}", 1, 1);
        t.makeProgram("{1 1 0 div}", 1, 1);
        t.makeProgram("{1 1}", 1, 1);
        t.tell(0, 20, 3, 0, 1, 2, 5, 10, 0, 5, 0, 5, 0, 5);
        t.x.make(3, 1, 1);
        t.tell(0, 20, 1, 3, 0, 20);
        t.x.make(3, 1, 1);
        for (int f = 3; f <= 4; f++) {
            t.inputs(4);
            t.dueOutputs("the first part of " + f, f, 4);
            t.inputs(5);
            t.due("the second part of " + f, t.x.call(f), NONE);
            t.dueFault("the second part of " + f, ZERO, 4);
            t.inputs(10);
            t.due("the third part of " + f, t.x.call(f), NONE);
            t.dueFault("the third part of " + f, COUNT, 4);
            t.due("the output stays", t.x.output(0), 4);
        }
    }

    private static void mustBeWhole(Trial t) {
        t.says("n, j below must be whole (a number of 65,536ths that 65,536 divides): else WHOLE");
        for (int n : new int[] {1, -1, ONE - 1, ONE + 1, ONE / 2, -ONE / 2, 1 - ONE, MOST - 1, 1 - MOST}) {
            t.dueFailsOfTwo(0, n, "copy", WHOLE);
            t.dueFailsOfTwo(0, n, "index", WHOLE);
            t.dueFailsOfTwo(0, n, "bitshift", WHOLE);
            t.dueFailsOfTwo(0, n, "roll", WHOLE);
            t.dueFailsOfTwo(n, 0, "roll", WHOLE);
            t.dueFailsOfTwo(n, 0, "bitshift", WHOLE);
            t.dueFailsOfTwo(n, 0, "idiv", WHOLE);
            t.dueFailsOfTwo(0, n, "mod", WHOLE);
        }
        t.dueOfTwo(0, 0, "copy", 0);
        t.dueOfTwo(7, 0, "index pop", 7);
    }

    private static void outOfBounds(Trial t) {
        t.says("AMOUNT, if they are out of bounds");
        for (int n : new int[] {-ONE, -2 * ONE, -MOST}) {
            t.dueFailsOfTwo(0, n, "copy", AMOUNT);
            t.dueFailsOfTwo(0, n, "index", AMOUNT);
            t.dueFailsOfTwo(n, 0, "roll", AMOUNT);
            t.dueFailsOfTwo(n, MOST, "roll", AMOUNT);
        }
        t.dueFailsOfTwo(0, 32 * ONE, "bitshift", AMOUNT);
        t.dueFailsOfTwo(0, -32 * ONE, "bitshift", AMOUNT);
        t.says("WHOLE of either goes before AMOUNT");
        t.dueFailsOfTwo(-ONE, 1, "roll", WHOLE);
        t.dueFailsOfTwo(-ONE - 1, 0, "roll", WHOLE);
        t.dueFailsOfTwo(0, -ONE - 1, "copy", WHOLE);
        t.dueFailsOfTwo(0, -ONE - 1, "index", WHOLE);
    }

    private static void popExchDup(Trial t) {
        t.says("pop exch dup");
        t.dueGives("1 2 3 pop", ONE, 2 * ONE);
        t.dueGives("1 2 3 exch", ONE, 3 * ONE, 2 * ONE);
        t.dueGives("1 2 dup", ONE, 2 * ONE, 2 * ONE);
        t.dueGivesFrom(MOST, "{dup}", MOST, MOST);
        t.dueGivesFrom(-MOST, "{dup 5 exch}", -MOST, 5 * ONE, -MOST);
    }

    private static void copy(Trial t) {
        t.says("n copy: the upper n values once more (n 0 or more: AMOUNT)");
        t.dueGives("1 2 0 copy", ONE, 2 * ONE);
        t.dueGives("1 2 1 copy", ONE, 2 * ONE, 2 * ONE);
        t.dueGives("1 2 2 copy", ONE, 2 * ONE, ONE, 2 * ONE);
        t.dueGives("0 copy 4", 4 * ONE);
        t.dueGives("1 true 2 copy pop exch {5} if", ONE, ONE, 5 * ONE);
        t.dueGives("true 1 copy {5} if exch {6} if", 5 * ONE, 6 * ONE);
        t.dueGives("true 3 2 copy exch {5} if 4 -1 roll {6} if", 3 * ONE, 3 * ONE, 5 * ONE, 6 * ONE);
        t.dueFails("{ -1 copy }", AMOUNT, 2);
        t.dueFails("{ 2 copy }", EMPTY, 2);
        t.dueFails("{ 1 3 copy }", EMPTY, 3);
        t.dueFails("{ pop 1 copy }", EMPTY, 3);
        t.dueFails("{ 16383 copy }", EMPTY, 2);
    }

    private static void index(Trial t) {
        t.says("n index: the value n below the top (0 the top itself; below 0: AMOUNT)");
        t.dueGives("1 2 3 0 index", ONE, 2 * ONE, 3 * ONE, 3 * ONE);
        t.dueGives("1 2 3 1 index", ONE, 2 * ONE, 3 * ONE, 2 * ONE);
        t.dueGives("1 2 3 2 index", ONE, 2 * ONE, 3 * ONE, ONE);
        t.dueGives("true 2 1 index {3} {4} ifelse 3 -1 roll pop", 2 * ONE, 3 * ONE);
        t.dueFails("{ -1 index }", AMOUNT, 2);
        t.dueFails("{ 1 index }", EMPTY, 2);
        t.dueFails("{ 1 2 index }", EMPTY, 3);
        t.dueFails("{ pop 0 index }", EMPTY, 3);
        t.dueFails("{ 16383 index }", EMPTY, 2);
        t.dueGivesFrom(7, filledTo(59) + "58 index" + popsTo1(60), 7);
        t.dueFails(filledTo(59) + "59 index}", EMPTY, 60);
    }

    private static void roll(Trial t) {
        t.says("n j roll: the upper n .. turned, j times the top one to below them");
        int[][] turned = {{1, 2, 3, 4}, {1, 4, 2, 3}, {1, 3, 4, 2}};
        for (int j : new int[] {0, 1, 2, 3, 4, 5, 300, 16381, 16382, 16383}) {
            dueTurned(t, j, turned[j % 3]);
        }
        t.dueGives("1 2 3 4 4 1 roll", 4 * ONE, ONE, 2 * ONE, 3 * ONE);
        t.dueGives("1 2 3 4 2 1 roll", ONE, 2 * ONE, 4 * ONE, 3 * ONE);
        t.dueGives("1 2 true 3 1 roll 3 -1 roll {3} if", ONE, 2 * ONE, 3 * ONE);
        t.says("(j below 0: the lowest one to the top)");
        int[][] back = {{1, 2, 3, 4}, {1, 3, 4, 2}, {1, 4, 2, 3}};
        for (int j : new int[] {1, 2, 3, 4, 5, 300, 16381, 16382, 16383}) {
            dueTurned(t, -j, back[j % 3]);
        }
        t.fresh();
        t.makeProgram("{3 exch roll}", 4, 3);
        t.inputs(5, 6, 7, -MOST);
        t.dueOutputs("16,384 turns back", 0, 6, 7, 5);
        t.inputs(5, 6, 7, MOST);
        t.dueOutputs("16,384 turns", 0, 7, 5, 6);
        t.says("the upper n (0 or more: AMOUNT)");
        t.dueGives("1 2 0 0 roll", ONE, 2 * ONE);
        t.dueGives("1 2 0 7 roll", ONE, 2 * ONE);
        t.dueGives("1 2 0 -7 roll", ONE, 2 * ONE);
        t.dueGives("1 2 1 7 roll", ONE, 2 * ONE);
        t.dueGives("0 0 roll 4", 4 * ONE);
        t.dueFails("{ -1 0 roll }", AMOUNT, 3);
        t.dueFails("{ -1 1 roll }", AMOUNT, 3);
        t.dueFails("{ 2 0 roll }", EMPTY, 3);
        t.dueFails("{ 2 1 roll }", EMPTY, 3);
        t.dueFails("{ 16383 1 roll }", EMPTY, 3);
        t.dueGives("1 1 0 roll", ONE);
        t.dueGivesFrom(7, filledTo(58) + "58 -1 roll " + Trial.times(57, "exch pop ") + "}", 7);
        t.dueFails(filledTo(58) + "59 -1 roll}", EMPTY, 60);
    }

    private static void dueTurned(Trial t, int j, int[] wanted) {
        t.dueGives("1 2 3 4 3 " + j + " roll", wanted[0] * ONE, wanted[1] * ONE, wanted[2] * ONE, wanted[3] * ONE);
    }

    private static void emptyBehindAmount(Trial t) {
        t.says("(Of these EMPTY for the n values comes behind AMOUNT.)");
        t.dueFails("{ pop -1 copy }", AMOUNT, 3);
        t.dueFails("{ pop -1 index }", AMOUNT, 3);
        t.dueFails("{ pop -1 0 roll }", AMOUNT, 4);
        t.says("EMPTY for the n values comes behind WHOLE and SORT too");
        t.dueFails("{ pop 9.5 copy }", WHOLE, 3);
        t.dueFails("{ pop 9.5 index }", WHOLE, 3);
        t.dueFails("{ pop 9.5 0 roll }", WHOLE, 4);
        t.dueFails("{ pop 9 0.5 roll }", WHOLE, 4);
        t.dueFails("{ pop 9 true roll }", SORT, 4);
        t.dueFails("{ pop true 0.5 roll }", SORT, 4);
        t.dueFails("{ pop 0.5 true roll }", SORT, 4);
        t.says("fewer than n itself, or n and j, is EMPTY all the same");
        t.dueFails("{ pop copy }", EMPTY, 2);
        t.dueFails("{ pop index }", EMPTY, 2);
        t.dueFails("{ pop -1 roll }", EMPTY, 3);
        t.dueFails("{ pop 0.5 roll }", EMPTY, 3);
        t.dueFails("{ pop true roll }", EMPTY, 3);
    }

    private static void justTheOutputs(Trial t) {
        t.says("At the end STACK must have just the outputs (COUNT, else)");
        for (int outputs = 1; outputs <= 4; outputs++) {
            for (int values = 0; values <= 6; values++) {
                t.fresh();
                t.makeProgram("{pop " + Trial.times(values, "1 ") + "}", 1, outputs);
                String what = values + " values for " + outputs;
                boolean right = values == outputs;
                t.due(what, t.x.call(0), right ? outputs : NONE);
                t.dueFault(what, right ? NONE : COUNT, right ? NONE : values + 3);
            }
        }
        t.dueFails(filledTo(60) + "}", COUNT, 61);
        t.dueFails("{1}", COUNT, 3);
        t.dueFails("{true {1} if}", COUNT, 7);
    }

    private static void allNumbers(Trial t) {
        t.says("all numbers (SORT); their place is how many words there are");
        t.dueFails("{pop true}", SORT, 4);
        t.dueFails("{pop false}", SORT, 4);
        t.dueFails("{1 eq}", SORT, 4);
        for (int wrong = 0; wrong < 4; wrong++) {
            t.fresh();
            String text = "{pop " + Trial.times(wrong, "1 ") + "true " + Trial.times(3 - wrong, "1 ") + "}";
            t.makeProgram(text, 1, 4);
            t.due(text, t.x.call(0), NONE);
            t.dueFault(text, SORT, 7);
        }
        t.says("COUNT goes before SORT");
        t.dueFails("{true}", COUNT, 3);
        t.dueFails("{pop true true}", COUNT, 5);
    }

    private static void outputsAreCut(Trial t) {
        t.says("They are cut to their RANGES");
        t.row("{}");
        t.tell(-MOST, MOST, -MOST, MOST, -MOST, MOST, -MOST, MOST, -1, 1, 5, 5, 2, 9, -9, -2);
        t.due("make", t.x.make(4, 4, 4), 0);
        dueCut(t);
    }
}
