/** The sentences of "Terms" about what a program, kind 4, is built of. */
final class BoundaryReadingTest {
    private static final int ONE = Trial.ONE;
    private static final int MOST = Trial.MOST;
    private static final int NUMBER = NumberFunctions.NUMBER;
    private static final int WORD = NumberFunctions.WORD;
    private static final int MANY = NumberFunctions.MANY;
    private static final int DEEP = NumberFunctions.DEEP;
    private static final int SHAPE = NumberFunctions.SHAPE;
    private static final String NAMES = "abs neg ceiling floor round truncate cvi cvr sqrt add sub mul div idiv mod "
            + "eq ne gt ge lt le true false and or xor not bitshift pop exch dup copy index roll";

    public static void main(String[] args) {
        Trial t = new Trial();
        theProgramIsTheRow(t);
        partedBySignsUpTo32(t);
        partedByBraces(t);
        bracesAndNothingElse(t);
        onceBeforeIf(t);
        twiceBeforeIfelse(t);
        signs(t);
        atLeastOneDigit(t);
        atLeastOneDigitMore(t);
        cutTo65536ths(t);
        nineDigitsCount(t);
        moreThan16383(t);
        names(t);
        atMost400Words(t);
        atMost12InOneAnother(t);
        firstWordIsTold(t);
        placeOfAWord(t);
        placeOfTheEnd(t);
        manyBeforeShape(t);
        manyBeforeTheRest(t);
        shapeBeforeTheRest(t);
        refusedRowsLeaveNothing(t);
        t.end();
    }

    private static void theProgramIsTheRow(Trial t) {
        t.says("the program is the row");
        t.dueRead("{" + Trial.times(8190, " ") + "}");
        t.dueRead(Trial.times(8190, " ") + "{}");
        t.dueRefused("{" + Trial.times(8191, " "), SHAPE, 8192);
        t.dueRefused(Trial.times(8191, " ") + "{", SHAPE, 8192);
        t.dueRefused("{" + Trial.times(8188, " ") + "x }", WORD, 8189);
        t.dueRefused("{}" + Trial.times(8189, " ") + "x", SHAPE, 8191);
        t.fresh();
        t.row("{pop 1} foo");
        t.x.cut(7);
        t.tellWide(2);
        t.due("what is cut off the row is no part of it", t.x.make(4, 1, 1), 0);
        t.row("");
        t.tellWide(2);
        t.due("an empty row", t.x.make(4, 1, 1), NumberFunctions.NONE);
        t.dueFault("an empty row", SHAPE, 0);
    }

    private static void partedBySignsUpTo32(Trial t) {
        t.says("Its words are parted by signs up to 32");
        for (int sign = 0; sign <= 32; sign++) {
            char c = (char) sign;
            t.dueGivesFrom(0, "{pop 1" + c + "2 add}", 3 * ONE);
            t.dueGivesFrom(0, c + "{" + c + "pop" + c + c + "3" + c + "}" + c, 3 * ONE);
        }
        t.says("Its words are parted by signs up to 32, and by no others");
        for (int sign = 33; sign <= 255; sign++) {
            char c = (char) sign;
            boolean parts = c == '{' || c == '}';
            boolean isNumber = c == '.' || (c >= '0' && c <= '9');
            if (!parts && !isNumber) {
                t.dueRefused("{pop 1" + c + "2 add}", WORD, 5);
                t.dueRefused(c + "{}", SHAPE, 0);
                t.dueRefused("{}" + c, SHAPE, 2);
            }
        }
    }

    private static void partedByBraces(Trial t) {
        t.says("and by { and }, which are words themselves");
        t.dueGivesFrom(0, "{true{pop 1}{pop 2}ifelse}", ONE);
        t.dueGivesFrom(0, "{pop 3 true{4 add}if}", 7 * ONE);
        t.dueRefused("{true{{1}if", SHAPE, 11);
        t.dueRefused("{1}2", SHAPE, 3);
        t.dueRefused("1{2}", SHAPE, 0);
        t.dueRefused("{1{2", SHAPE, 4);
    }

    private static void bracesAndNothingElse(Trial t) {
        t.says("It is { ... } and nothing else");
        t.dueRead("{}");
        t.dueRead(" { } ");
        t.dueRefused("", SHAPE, 0);
        t.dueRefused(" ", SHAPE, 1);
        t.dueRefused("1", SHAPE, 0);
        t.dueRefused("pop", SHAPE, 0);
        t.dueRefused("}", SHAPE, 0);
        t.dueRefused("}{", SHAPE, 0);
        t.dueRefused("if", SHAPE, 0);
        t.dueRefused("1 {}", SHAPE, 0);
        t.dueRefused("{} 1", SHAPE, 3);
        t.dueRefused("{}}", SHAPE, 2);
        t.dueRefused("{}{}", SHAPE, 2);
        t.dueRefused("{} if", SHAPE, 3);
        t.dueRefused("{} ifelse", SHAPE, 3);
        t.dueRefused("{", SHAPE, 1);
        t.dueRefused("{1", SHAPE, 2);
        t.dueRefused("{{}if", SHAPE, 5);
    }

    private static void onceBeforeIf(Trial t) {
        t.says("within, { ... } stands only before if");
        t.dueRead("{{}if}");
        t.dueRead("{{}if{}if}");
        t.dueRead("{{{}if}if}");
        t.dueRead("{1 {2} if 3}");
        t.dueRefused("{if}", SHAPE, 1);
        t.dueRefused("{1 if}", SHAPE, 3);
        t.dueRefused("{{}}", SHAPE, 3);
        t.dueRefused("{{{}}if}", SHAPE, 4);
        t.dueRefused("{{}", SHAPE, 3);
        t.dueRefused("{{} 1 if}", SHAPE, 4);
        t.dueRefused("{{} true if}", SHAPE, 4);
        t.dueRefused("{{}{}if}", SHAPE, 5);
        t.dueRefused("{{}if if}", SHAPE, 6);
        t.dueRefused("{{if}if}", SHAPE, 2);
        for (String name : NAMES.split(" ")) {
            t.dueRefused("{{}" + name + "}", SHAPE, 3);
        }
    }

    private static void twiceBeforeIfelse(Trial t) {
        t.says("twice before ifelse");
        t.dueRead("{{}{}ifelse}");
        t.dueRead("{{}{}ifelse{}{}ifelse}");
        t.dueRead("{{}if{}{}ifelse{}if}");
        t.dueRead("{{{}{}ifelse}{{}if}ifelse}");
        t.dueRefused("{ifelse}", SHAPE, 1);
        t.dueRefused("{1 2 ifelse}", SHAPE, 5);
        t.dueRefused("{{}ifelse}", SHAPE, 3);
        t.dueRefused("{{}{}}", SHAPE, 5);
        t.dueRefused("{{}{}", SHAPE, 5);
        t.dueRefused("{{}{}{}ifelse}", SHAPE, 5);
        t.dueRefused("{{}{}{", SHAPE, 5);
        t.dueRefused("{{} 1 {}ifelse}", SHAPE, 4);
        t.dueRefused("{{}{} 1 ifelse}", SHAPE, 6);
        t.dueRefused("{{}if{}ifelse}", SHAPE, 7);
        t.dueRefused("{{}{}ifelse ifelse}", SHAPE, 12);
        t.dueRefused("{{}{}ifelse if}", SHAPE, 12);
        t.dueRefused("{{ifelse}{}ifelse}", SHAPE, 2);
        for (String name : NAMES.split(" ")) {
            t.dueRefused("{{}{}" + name + "}", SHAPE, 5);
        }
    }

    private static void dueNone(Trial t, String... words) {
        for (String word : words) {
            t.dueRefused("{ " + word + " }", WORD, 2);
        }
    }

    private static void signs(Trial t) {
        t.says("numbers (a sign + or - or none");
        t.dueGives("5 +5 -5 -0", 5 * ONE, 5 * ONE, -5 * ONE, 0);
        t.dueGives("5.5 +5.5 -5.5", 11 * ONE / 2, 11 * ONE / 2, -11 * ONE / 2);
        dueNone(t, "--5", "++5", "+-5", "-+5", "5-", "5+", "5-5", "*5", "5.-5", "5.+5", "5.5-");
    }

    private static void atLeastOneDigit(Trial t) {
        t.says("digits, at least one");
        t.dueGives("0 9 10", 0, 9 * ONE, 10 * ONE);
        dueNone(t, "+", "-", ".", "+.", "-.", ".5", "+.5", "-.5", "/", ":", "1:", "1/", "a", "1a", "a1");
    }

    private static void atLeastOneDigitMore(Trial t) {
        t.says("maybe a point and at least one digit more");
        t.dueGives("5.0 5.5 5.50", 5 * ONE, 11 * ONE / 2, 11 * ONE / 2);
        dueNone(t, "5.", "+5.", "-5.", "5..", "5..5", "5.5.", "5.5.5", "5,5", "5.a", "5.5a", "5.:", "5./", "16384.");
    }

    private static void cutTo65536ths(Trial t) {
        t.says("the distance from 0 is cut to 65,536ths");
        t.dueGives("0.00001525 0.00001526 -0.00001525 -0.00001526", 0, 1, 0, -1);
        t.dueGives("0.00003051 0.00003052 -0.00003051 -0.00003052", 1, 2, -1, -2);
        t.dueGives("0.99998 -0.99998 0.99999 -0.99999", 65534, -65534, 65535, -65535);
        t.dueGives("1.99999 -1.99999 0.5 -0.5", 2 * ONE - 1, 1 - 2 * ONE, ONE / 2, -ONE / 2);
    }

    /** 0.0000152587890625 is one 65,536th: nine digits are just short of it, or just above. */
    private static void nineDigitsCount(Trial t) {
        t.says("of digits behind the point only nine count");
        t.dueGives("0.000015258 0.000015259 0.0000152589 0.000015258999", 0, 1, 0, 0);
        t.dueGives("-0.000015258 -0.000015259 -0.0000152589", 0, -1, 0);
        t.dueGives("0.000030517 0.000030518 0.0000305179999", 1, 2, 1);
        t.dueGives("0.999999999 0.9999999999 0." + Trial.times(4000, "9"), 65535, 65535, 65535);
        t.dueGives("0.0000000009 0.00000000099999 0." + Trial.times(4000, "0") + "1", 0, 0, 0);
        t.dueGives("0.5000000009 0.25" + Trial.times(4000, "0") + " 1.5" + Trial.times(2000, "0"), ONE / 2, ONE / 4,
                3 * ONE / 2);
    }

    private static void moreThan16383(Trial t) {
        t.says("more than 16,383 before the point: NUMBER");
        t.dueGives("16383 +16383 -16383", 16383 * ONE, 16383 * ONE, -16383 * ONE);
        t.dueGives("16383.99999 -16383.99999 16383.999999999999", MOST - 1, 1 - MOST, MOST - 1);
        t.dueGives("0016383 " + Trial.times(4000, "0") + "16383 -" + Trial.times(3000, "0"), 16383 * ONE, 16383 * ONE, 0);
        for (String large : new String[] {"16384", "+16384", "-16384", "16384.0", "016384", "16384.5", "-16385.25",
            "20000", "99999", "163830", "2147483647", "2147483648", "4294967295", "4294967296", "9223372036854775808",
            "18446744073709551616", Trial.times(8000, "9"), "1" + Trial.times(8000, "0")}) {
            t.dueRefused("{ " + large + " }", NUMBER, 2);
        }
    }

    private static void names(Trial t) {
        t.says("or the names below; others are WORD");
        for (String name : NAMES.split(" ")) {
            t.dueRead("{" + name + "}");
            dueNone(t, name + "s", "s" + name, name.toUpperCase(), name.substring(0, name.length() - 1) + "_");
        }
        dueNone(t, "a", "ab", "absabs", "i", "iff", "ifels", "ifelseif", "else", "IF", "If", "tru", "cvs", "exp", "ln",
                "log", "sin", "cos", "atan", "Abs", "(", ")", "[", "]", "%", "add,", "\u00e4dd", "\u00ff", "\u007f");
        t.dueRefused("{ " + Trial.times(8000, "a") + " }", WORD, 2);
    }

    private static void atMost400Words(Trial t) {
        t.says("At most 400 words (MANY)");
        t.dueRead("{" + Trial.times(397, "1 ") + "}");
        t.dueRead("{" + Trial.times(398, "1 ") + "}");
        t.dueRefused("{" + Trial.times(399, "1 ") + "}", MANY, 799);
        t.dueRefused("{" + Trial.times(2000, "1 ") + "}", MANY, 799);
        t.says("{ and } are words, and if and ifelse are");
        t.dueRead("{" + Trial.times(132, "{}if ") + "1 1}");
        t.dueRefused("{" + Trial.times(132, "{}if ") + "1 1 1}", MANY, 666);
        t.dueRead("{" + Trial.times(79, "{}{}ifelse ") + "1 1 1}");
        t.dueRefused("{" + Trial.times(79, "{}{}ifelse ") + "1 1 1 1}", MANY, 877);
        t.dueRefused(Trial.times(399, "{}"), SHAPE, 2);
    }

    private static String nested(int depth, String inmost) {
        return Trial.times(depth, "{") + inmost + Trial.times(depth - 1, "}if") + "}";
    }

    private static void atMost12InOneAnother(Trial t) {
        t.says("at most 12 { in one another (DEEP)");
        t.dueRead(nested(11, ""));
        t.dueRead(nested(12, ""));
        t.dueRead(nested(12, "1"));
        t.dueRefused(nested(13, ""), DEEP, 12);
        t.dueRefused(nested(12, "{}{}ifelse"), DEEP, 12);
        t.dueRead(nested(11, "{}if {}{}ifelse {}if"));
        t.dueRefused(nested(11, "{}if {}{{}if}ifelse"), DEEP, 19);
        t.dueRead("{" + Trial.times(40, "{}if ") + "}");
        t.dueRefused(Trial.times(400, "{"), DEEP, 12);
        t.dueRefused(Trial.times(500, "{"), DEEP, 12);
    }

    private static void firstWordIsTold(Trial t) {
        t.says("The first word that shows a fault is told");
        t.dueRefused("{ foo 16384 if", WORD, 2);
        t.dueRefused("{ 16384 foo if", NUMBER, 2);
        t.dueRefused("{ if foo 16384", SHAPE, 2);
        t.dueRefused(Trial.times(13, "{") + " foo", DEEP, 12);
        t.dueRefused(Trial.times(12, "{") + " foo {", WORD, 13);
        t.dueRefused("{ 1 foo foo", WORD, 4);
        t.dueRefused("{" + Trial.times(398, "1 ") + "foo 1 1", WORD, 797);
        t.dueRefused("{ foo", WORD, 2);
        t.dueRefused("{ {} foo", SHAPE, 5);
    }

    private static void placeOfAWord(Trial t) {
        t.says("its place being the byte with which it begins");
        t.dueRefused("{foo}", WORD, 1);
        t.dueRefused(" {foo}", WORD, 2);
        t.dueRefused("{ \n\t foo}", WORD, 5);
        t.dueRefused("{1 16384}", NUMBER, 3);
        t.dueRefused("{1 -16384}", NUMBER, 3);
        t.dueRefused("  1", SHAPE, 2);
        t.dueRefused("{}  {}", SHAPE, 4);
        t.dueRefused(Trial.times(13, " {"), DEEP, 25);
        t.dueRefused("{" + Trial.times(399, "1 ") + "  }", MANY, 801);
    }

    private static void placeOfTheEnd(Trial t) {
        t.says("(for the end: how many bytes there are)");
        t.dueRefused("", SHAPE, 0);
        t.dueRefused("\0", SHAPE, 1);
        t.dueRefused("   ", SHAPE, 3);
        t.dueRefused("{", SHAPE, 1);
        t.dueRefused("{  ", SHAPE, 3);
        t.dueRefused("{ 1 ", SHAPE, 4);
        t.dueRefused("{ {1} ", SHAPE, 6);
        t.dueRefused("{ {1} if", SHAPE, 8);
        t.dueRefused(Trial.times(12, "{"), SHAPE, 12);
        t.dueRefused("{" + Trial.times(399, "1 "), SHAPE, 799);
    }

    private static void manyBeforeShape(Trial t) {
        t.says("of one word MANY goes before SHAPE");
        String full = "{" + Trial.times(398, "1 ");
        t.dueRefused(full + "1 if", MANY, 799);
        t.dueRefused(full + "1 ifelse", MANY, 799);
        t.dueRefused(full + "} }", MANY, 799);
        t.dueRefused(full + "} {", MANY, 799);
        t.dueRefused(full + "} 1", MANY, 799);
        t.dueRefused(full + "} if", MANY, 799);
        t.dueRefused("{" + Trial.times(397, "1 ") + "{} 1", MANY, 798);
        t.dueRefused("{" + Trial.times(396, "1 ") + "{} 1", SHAPE, 796);
        t.dueRefused(full + "if", SHAPE, 797);
    }

    private static void manyBeforeTheRest(Trial t) {
        t.says("MANY goes before .. DEEP .. WORD and NUMBER");
        String ones = Trial.times(388, "1 ");
        t.dueRefused("{" + ones + Trial.times(11, "{") + "{", MANY, 788);
        t.dueRefused("{" + Trial.times(387, "1 ") + Trial.times(11, "{") + "{", DEEP, 786);
        String full = "{" + Trial.times(399, "1 ");
        t.dueRefused(full + "foo", MANY, 799);
        t.dueRefused(full + "16384", MANY, 799);
        t.dueRefused(full + ".", MANY, 799);
    }

    private static void shapeBeforeTheRest(Trial t) {
        t.says("SHAPE .. before DEEP, that before WORD and NUMBER");
        t.dueRefused(Trial.times(11, "{") + "{}{}{", SHAPE, 15);
        t.dueRefused("foo", SHAPE, 0);
        t.dueRefused("16384", SHAPE, 0);
        t.dueRefused("{} foo", SHAPE, 3);
        t.dueRefused("{} 16384", SHAPE, 3);
        t.dueRefused("{ {} foo", SHAPE, 5);
        t.dueRefused("{ {} 16384", SHAPE, 5);
        t.dueRefused("{ {}{} foo", SHAPE, 7);
        t.dueRefused("{ {}{} 16384", SHAPE, 7);
    }

    private static void refusedRowsLeaveNothing(Trial t) {
        t.says("the program is the row, as it is then: a row that was refused before is no part of it");
        int made = 0;
        for (String broken : new String[] {"{{}", "{{}{}", "{{{}{}", "{true{{}{", Trial.times(13, "{"), "{}{", "{1 foo"}) {
            t.due(broken, t.makeProgram(broken, 1, 1), NumberFunctions.NONE);
            t.due("behind " + broken, t.makeProgram("{true {1 add} if}", 1, 1), made);
            t.dueOutputs("behind " + broken, made, ONE);
            made++;
        }
    }
}
