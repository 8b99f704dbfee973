/** Kind 4: what is a program, and where it shows that it is none. */
final class ProgramReadingTest {
    private static final int ONE = Trial.ONE;

    public static void main(String[] args) {
        Trial t = new Trial();
        parting(t);
        shapes(t);
        depths(t);
        manyWords(t);
        names(t);
        numerals(t);
        firstFaultWins(t);
        readAnew(t);
        t.end();
    }

    private static void parting(Trial t) {
        t.dueGives("1\t2\r\n3 add\0add", 6 * ONE);
        t.dueGives("  1 \001\037 ", ONE);
        t.dueGivesFrom(0, "\0 \n{pop 1}\0 ", ONE);
        t.dueGivesFrom(0, "{true{1}{2}ifelse add}", ONE);
        t.dueRefused("{1!}", NumberFunctions.WORD, 1);
        t.dueRefused("{ \u007f}", NumberFunctions.WORD, 2);
        t.dueRefused("{ \u0080}", NumberFunctions.WORD, 2);
        t.dueRefused("{ \u00a0 1}", NumberFunctions.WORD, 2);
        t.dueRefused("{ 1\u00ff}", NumberFunctions.WORD, 2);
        t.dueRefused("{1,2}", NumberFunctions.WORD, 1);
    }

    private static void shapes(Trial t) {
        t.dueRead("{}");
        t.dueRead("{true{}if}");
        t.dueRead("{true{}{}ifelse}");
        t.dueRead("{ {1} if {2} if {3} {4} ifelse }");
        t.dueRead("{ { {1} if } { {2} {3} ifelse } ifelse }");
        t.dueRefused("", NumberFunctions.SHAPE, 0);
        t.dueRefused(" \n ", NumberFunctions.SHAPE, 3);
        t.dueRefused("{", NumberFunctions.SHAPE, 1);
        t.dueRefused("{ 1  ", NumberFunctions.SHAPE, 5);
        t.dueRefused("{ {1}", NumberFunctions.SHAPE, 5);
        t.dueRefused("{ {1", NumberFunctions.SHAPE, 4);
        t.dueRefused(" }", NumberFunctions.SHAPE, 1);
        t.dueRefused(" 1", NumberFunctions.SHAPE, 1);
        t.dueRefused(" if", NumberFunctions.SHAPE, 1);
        t.dueRefused("{} }", NumberFunctions.SHAPE, 3);
        t.dueRefused("{} {", NumberFunctions.SHAPE, 3);
        t.dueRefused("{} 1", NumberFunctions.SHAPE, 3);
        t.dueRefused("{}{}ifelse", NumberFunctions.SHAPE, 2);
        t.dueRefused("{}if", NumberFunctions.SHAPE, 2);
        t.dueRefused("{ if }", NumberFunctions.SHAPE, 2);
        t.dueRefused("{ ifelse }", NumberFunctions.SHAPE, 2);
        t.dueRefused("{ {1} ifelse }", NumberFunctions.SHAPE, 6);
        t.dueRefused("{ {1}{2} if }", NumberFunctions.SHAPE, 9);
        t.dueRefused("{ {1}{2} {3} ifelse }", NumberFunctions.SHAPE, 9);
        t.dueRefused("{ {1} }", NumberFunctions.SHAPE, 6);
        t.dueRefused("{ {1}{2} }", NumberFunctions.SHAPE, 9);
        t.dueRefused("{ {1} 2 if }", NumberFunctions.SHAPE, 6);
        t.dueRefused("{ {1} true if }", NumberFunctions.SHAPE, 6);
        t.dueRefused("{ {1} {2} add ifelse }", NumberFunctions.SHAPE, 10);
        t.dueRefused("{ {1} if if }", NumberFunctions.SHAPE, 9);
        t.dueRefused("{ {1} {2} ifelse ifelse }", NumberFunctions.SHAPE, 17);
        t.dueRefused("{ {{1}} if }", NumberFunctions.SHAPE, 6);
    }

    private static String nested(int depth) {
        return Trial.times(depth, "{") + Trial.times(depth - 1, "} if") + "}";
    }

    private static void depths(Trial t) {
        t.dueRead(nested(12));
        t.dueRefused(nested(13), NumberFunctions.DEEP, 12);
        t.dueRefused(Trial.times(13, " {"), NumberFunctions.DEEP, 25);
        t.dueRefused(Trial.times(12, "{"), NumberFunctions.SHAPE, 12);
        t.dueRead(Trial.times(11, "{") + "{}{}ifelse {}if" + Trial.times(10, "} if") + "}");
        t.dueRefused(Trial.times(12, "{") + "{}if", NumberFunctions.DEEP, 12);
        t.dueRefused(Trial.times(11, "{") + "{}{}{", NumberFunctions.SHAPE, 15);
    }

    private static void manyWords(Trial t) {
        t.dueRead("{" + Trial.times(398, "1 ") + "}");
        t.dueRefused("{" + Trial.times(399, "1 ") + "}", NumberFunctions.MANY, 799);
        t.dueRefused("{" + Trial.times(399, "1 "), NumberFunctions.SHAPE, 799);
        t.dueRefused("{" + Trial.times(400, "1 "), NumberFunctions.MANY, 799);
        t.dueRefused("{" + Trial.times(398, "1 ") + "} x", NumberFunctions.MANY, 799);
        t.dueRefused("{" + Trial.times(398, "1 ") + "} }", NumberFunctions.MANY, 799);
        t.dueRefused("{" + Trial.times(399, "1 ") + "foo", NumberFunctions.MANY, 799);
        t.dueRefused("{" + Trial.times(399, "1 ") + "99999", NumberFunctions.MANY, 799);
        t.dueRefused("{" + Trial.times(399, "1 ") + "if", NumberFunctions.MANY, 799);
        t.dueRefused("{" + Trial.times(398, "1 ") + "foo", NumberFunctions.WORD, 797);
        t.dueRefused("{" + Trial.times(8191, "1"), NumberFunctions.NUMBER, 1);
    }

    private static void names(Trial t) {
        String all = "abs neg ceiling floor round truncate cvi cvr sqrt add sub mul div idiv mod eq ne gt ge "
                + "lt le true false and or xor not bitshift pop exch dup copy index roll";
        t.dueRead("{" + all + "}");
        for (String name : all.split(" ")) {
            t.dueRefused("{" + name + "x}", NumberFunctions.WORD, 1);
            t.dueRefused("{ q" + name + "}", NumberFunctions.WORD, 2);
            t.dueRefused("{ " + name.toUpperCase() + "}", NumberFunctions.WORD, 2);
        }
        for (String none : "sin cos atan exp ln log ab a iff ifels /add (1) [ ] < 1e5 % #".split(" ")) {
            t.dueRefused("{ " + none + " }", NumberFunctions.WORD, 2);
        }
    }

    private static void numerals(Trial t) {
        t.dueGives("0 00 -0 +0.0", 0, 0, 0, 0);
        t.dueGives("7 +7 -7 007", 7 * ONE, 7 * ONE, -7 * ONE, 7 * ONE);
        t.dueGives("0.5 -0.5 +1.25 1.50", ONE / 2, -ONE / 2, ONE + ONE / 4, ONE + ONE / 2);
        t.dueGives("0.00001 -0.00001 0.00002 -0.00002", 0, 0, 1, -1);
        // A 65,536th is 0.0000152587890625, of which nine digits are too few.
        t.dueGives("0.000015258 0.0000152589 0.00001525899999 0.000015259", 0, 0, 0, 1);
        t.dueGives("0.1 0.9 -0.1 -0.9", 6553, 58982, -6553, -58982);
        t.dueGives("0.999999999 0.9999999999999999999 16383.9999999999 -16383.99999",
                65535, 65535, Trial.MOST - 1, -Trial.MOST + 1);
        t.dueGives("16383 -16383 00000000000000016383 +16383.0", 16383 * ONE, -16383 * ONE, 16383 * ONE, 16383 * ONE);
        for (String large : "16384 +16384 -16384 16384.0 99999999999999999999 65536 2147483648 4294967296".split(" ")) {
            t.dueRefused("{ " + large + " }", NumberFunctions.NUMBER, 2);
        }
        for (String none : "+ - . +. -. .5 -.5 +.5 5. -5. 1..2 1.2.3 1.2. --1 +-1 1- 1+ 1-2 1.-2 1.+2 1x 99999. 99999.x 0x10 1/2 /"
                .split(" ")) {
            t.dueRefused("{ " + none + " }", NumberFunctions.WORD, 2);
        }
    }

    /** What one row left unfinished is nothing to the next. */
    private static void readAnew(Trial t) {
        t.fresh();
        int made = 0;
        for (String broken : new String[] {"{ {} 1", "{ {} {} 1", "{ true { {} {", "{{{{{{{{{{{{{", "{} {}", "{ 1 foo"}) {
            t.due(broken, t.makeProgram(broken, 1, 1), NumberFunctions.NONE);
            t.due("behind " + broken, t.makeProgram("{true {1 add} if}", 1, 1), made);
            t.dueOutputs("behind " + broken, made, ONE);
            made++;
        }
    }

    private static void firstFaultWins(Trial t) {
        t.dueRefused("{ foo 99999", NumberFunctions.WORD, 2);
        t.dueRefused("{ 99999 foo", NumberFunctions.NUMBER, 2);
        t.dueRefused("{ if foo", NumberFunctions.SHAPE, 2);
        t.dueRefused("{ foo if", NumberFunctions.WORD, 2);
        t.dueRefused("foo", NumberFunctions.SHAPE, 0);
        t.dueRefused("99999", NumberFunctions.SHAPE, 0);
        t.dueRefused("{ {} foo", NumberFunctions.SHAPE, 5);
        t.dueRefused("{ {} 99999", NumberFunctions.SHAPE, 5);
        t.dueRefused("{ } foo", NumberFunctions.SHAPE, 4);
        t.dueRefused("{ {foo} 1 }", NumberFunctions.WORD, 3);
    }
}
