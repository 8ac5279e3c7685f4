/** The boundary cases of what the document says of texts and terms: TERMS, and promises 1 to 4. */
public final class BoundaryTextTest {
    private static final int ROOM = 80;

    private BoundaryTextTest() {
    }

    public static void main(String[] args) throws Exception {
        Boundaries.run(BoundaryTextTest.class);
    }

    private static StreamJudge withText(String text) {
        StreamJudge x = new StreamJudge();
        Check.text(x, text);
        return x;
    }

    private static void faultIs(String text, int want) {
        Check.due("fault of '" + text + "'", withText(text).fault(), want);
    }

    /** The values of A from 0 on, where B counts 0 1 2 .. and C is 1 2 4 8 6 .. modulo 10. */
    private static void valuesAre(int modulus, String equation, String want) {
        StreamJudge x = Check.judge(modulus, equation, ":0+1B", ":1*2C");
        Check.due("values of " + equation + " modulo " + modulus, Check.valuesOf(x, 0, want.length()), want);
    }

    private static void valueIs(String equation, int i, int want) {
        StreamJudge x = Check.judge(10, equation, ":0+1B", ":1*2C");
        Check.due("value of " + equation + " at " + i, x.value(0, i), want);
    }

    // ---- TERMS

    @Says(in = "TERMS", words = "There are eight streams, 0 to 7, which are written A to H")
    static void streamsAreAToH() {
        for (int a = 0; a < 8; a++) {
            StreamJudge x = withText("" + (char) ('A' + a));
            Check.due("fault of the name of " + a, x.fault(), -9);
            Check.due("define(" + a + ")", x.define(a), 1);
            Check.due("uses(" + a + ")", x.uses(a), 1 << a);
        }
        faultIs("@", 0);
        faultIs("I", 0);
        faultIs("a", 0);
        faultIs("h", 0);
        StreamJudge x = withText("1");
        Boundaries.eachIs("define", Boundaries.NO_STREAMS, x::define, -1);
    }

    @Says(in = "TERMS", words = "and a modulus M from 2 to 10 (2 at first)")
    static void modulusIsFrom2To10() {
        StreamJudge x = new StreamJudge();
        Check.due("M at first", x.told(0), 2);
        for (int m = 2; m <= 10; m++) {
            x.setModulus(m);
            Check.due("M", x.told(0), m);
        }
        x.setModulus(11);
        Check.due("M behind setModulus(11)", x.told(0), 10);
        x.setModulus(2);
        x.setModulus(1);
        Check.due("M behind setModulus(1)", x.told(0), 2);
    }

    @Says(in = "TERMS", words = "values are from 0 to M - 1")
    static void valuesAreBelowM() {
        for (int m = 2; m <= 10; m++) {
            StreamJudge x = Check.judge(m, ":0+1A", ":1*2B", "+99", "*99", ":99");
            Check.due("values of a count modulo " + m, x.stream(0, 2), m);
            for (int i = 0; i < 2 * m; i++) {
                Check.due("count modulo " + m + " at " + i, x.value(0, i), i % m);
            }
            Check.due("9 + 9 modulo " + m, x.value(2, 0), 18 % m);
            Check.due("9 * 9 modulo " + m, x.value(3, 0), 81 % m);
            Check.due("a front of 9 modulo " + m, x.value(4, 0), 9 % m);
        }
    }

    @Says(in = "TERMS", words = "A stream may have an equation, which is a term; at first none has one")
    static void noStreamHasAnEquationAtFirst() {
        StreamJudge x = new StreamJudge();
        for (int a = 0; a < 8; a++) {
            Check.due("size of " + a + " at first", x.stream(a, 0), -9);
            Check.due("undefine(" + a + ") at first", x.undefine(a), -2);
        }
        Check.due("equations at first", x.told(1), 0);
        for (int a = 0; a < 8; a++) {
            Check.equation(x, a, "1");
        }
        Check.due("all eight may have one", x.told(1), 8);
    }

    @Says(in = "TERMS", words = "The text has at most 80 bytes")
    static void textHasAtMost80Bytes() {
        StreamJudge x = withText("t".repeat(ROOM - 1));
        Check.due("the 80th byte", x.write('A'), ROOM);
        Check.due("a text of 80 bytes is a term", x.fault(), -9);
        Check.due("the 81st byte", x.write(' '), -3);
        Check.due("bytes", x.told(4), ROOM);
        Check.due("fault is as before", x.fault(), -9);
        Check.due("all 80 bytes are read", x.define(0), ROOM);
    }

    @Says(in = "TERMS", words = "with codes from 32 to 126")
    static void codesAreFrom32To126() {
        StreamJudge x = new StreamJudge();
        for (int code = 32; code <= 126; code++) {
            x.wipe();
            Check.due("write(" + code + ")", x.write(code), 1);
        }
        x.wipe();
        Check.due("write(31)", x.write(31), -1);
        Check.due("write(127)", x.write(127), -1);
        Check.due("bytes", x.told(4), 0);
    }

    @Says(in = "TERMS", words = "and is empty at first")
    static void textIsEmptyAtFirst() {
        Check.due("bytes at first", new StreamJudge().told(4), 0);
        Check.due("wipe() at first", new StreamJudge().wipe(), 0);
        Check.due("write() at first", new StreamJudge().write('A'), 1);
    }

    @Says(in = "TERMS", words = "it is the text of a term, with blanks (code 32) anywhere")
    static void blanksMayStandAnywhere() {
        String[] texts = {" A", "A ", "  :  1  z  A  t  B  ", ": 1A", ":1 A", " ".repeat(79) + "A", "A" + " ".repeat(79)};
        String[] listings = {"A", "A", ":1zAtB", ":1A", ":1A", "A", "A"};
        for (int k = 0; k < texts.length; k++) {
            StreamJudge x = withText(texts[k]);
            Check.due("fault of '" + texts[k] + "'", x.fault(), -9);
            x.define(0);
            Check.due("listing of '" + texts[k] + "'", Check.listingOf(x, 0), listings[k]);
        }
        faultIs(" ", 1);
        faultIs(" ".repeat(ROOM), ROOM);
        // Only the code 32 is a blank.
        faultIs("!A", 0);
        faultIs("A_", 1);
    }

    @Says(in = "TERMS", words = "with their values at the index i (indices begin with 0)")
    static void indicesBeginWith0() {
        StreamJudge x = Check.judge(10, ":7B", ":0+1B");
        Check.due("value(0, 0)", x.value(0, 0), 7);
        Check.due("value(0, 1)", x.value(0, 1), 0);
        Check.due("value(0, -1)", x.value(0, -1), -1);
    }

    @Says(in = "TERMS", words = "A to H the value of this stream at i")
    static void aNameIsTheValueOfTheStream() {
        valuesAre(10, "B", "0123456789012");
        valueIs("B", 399, 9);
        StreamJudge x = Check.judge(10, "H");
        Check.equation(x, 7, ":35");
        Check.due("the last stream by its name", Check.valuesOf(x, 0, 3), "355");
    }

    @Says(in = "TERMS", words = "d a constant: the remainder of d divided by M, at each index")
    static void aConstantIsARemainder() {
        for (int m = 2; m <= 10; m++) {
            for (int d = 0; d <= 9; d++) {
                StreamJudge x = Check.judge(m, "" + d);
                Check.due(d + " modulo " + m + " at 0", x.value(0, 0), d % m);
                Check.due(d + " modulo " + m + " at 399", x.value(0, 399), d % m);
            }
        }
    }

    @Says(in = "TERMS",
        words = ": d T a front: the remainder of d divided by M at 0, and at i > 0 the value of T at i - 1")
    static void aFrontShifts() {
        for (int m = 2; m <= 10; m++) {
            for (int d = 0; d <= 9; d++) {
                Check.due(":" + d + " modulo " + m, Check.judge(m, ":" + d + "0").value(0, 0), d % m);
            }
        }
        valuesAre(10, ":7B", "70123");
        valueIs(":7B", 399, 8);
        valuesAre(10, ":7D", "7?");
    }

    @Says(in = "TERMS", words = "t T a tail: the value of T at i + 1")
    static void aTailLooksAhead() {
        valuesAre(10, "tB", "1234567890");
        valueIs("tB", 398, 9);
        valueIs("tB", 399, -9);
        valueIs("t5", 399, 5);
        valuesAre(10, "t:7B", "0123");
    }

    @Says(in = "TERMS", words = "+ T T the sum of the values of both at i, modulo M")
    static void aSumWrapsAround() {
        for (int m = 2; m <= 10; m++) {
            for (int d = 1; d < m; d++) {
                StreamJudge x = Check.judge(m, "+" + (m - 1) + d, "+" + d + (m - d));
                Check.due((m - 1) + " + " + d + " modulo " + m, x.value(0, 0), (m - 1 + d) % m);
                Check.due(d + " + " + (m - d) + " modulo " + m, x.value(1, 0), 0);
            }
        }
        valuesAre(10, "+BC", "136107054");
        valueIs("+BB", 399, 8);
    }

    @Says(in = "TERMS", words = "* T T their product, modulo M")
    static void aProductWrapsAround() {
        for (int m = 2; m <= 10; m++) {
            for (int d = 0; d <= 9; d++) {
                StreamJudge x = Check.judge(m, "*9" + d, "*" + d + d);
                Check.due("9 * " + d + " modulo " + m, x.value(0, 0), 9 * d % m);
                Check.due(d + " * " + d + " modulo " + m, x.value(1, 0), d * d % m);
            }
        }
        valuesAre(10, "*BC", "028440468");
        valueIs("*BB", 399, 1);
    }

    @Says(in = "TERMS", words = {"z T T a zip: at an even i the value of the first one at i / 2",
        "at an odd i that of the second one at (i - 1) / 2"})
    static void aZipTakesTurns() {
        valuesAre(10, "zBC", "0112243846");
        valueIs("zB5", 398, 9);
        valueIs("z5B", 399, 9);
        // Only the operand whose turn it is counts: D has no equation.
        valuesAre(10, "zBD", "0?1?2?");
        valuesAre(10, "zDB", "?0?1?2");
    }

    @Says(in = "TERMS", words = "e T evens: the value of T at 2 * i")
    static void evensDouble() {
        valuesAre(10, "eB", "0246802");
        valueIs("eB", 199, 8);
        valueIs("eB", 200, -9);
    }

    @Says(in = "TERMS", words = "o T odds: the value of T at 2 * i + 1")
    static void oddsDoubleAndAddOne() {
        valuesAre(10, "oB", "1357913");
        valueIs("oB", 199, 9);
        valueIs("oB", 200, -9);
    }

    @Says(in = "TERMS",
        words = "The size of a term is the number of terms in it, itself included (the digit of a front is not counted)")
    static void sizesCountTerms() {
        String[] texts = {"A", "5", ":5A", ":55", "tA", "+AB", "z:1Ae5", "t".repeat(79) + "A", ":1".repeat(39) + "A",
            "+".repeat(39) + "1".repeat(40), " : 5 A "};
        int[] sizes = {1, 1, 2, 2, 2, 3, 5, 80, 40, 79, 2};
        for (int k = 0; k < texts.length; k++) {
            StreamJudge x = withText(texts[k]);
            Check.due("define by '" + texts[k] + "'", x.define(3), sizes[k]);
            Check.due("stream(3, 0) by '" + texts[k] + "'", x.stream(3, 0), sizes[k]);
        }
    }

    @Says(in = "TERMS",
        words = "The fault of a text is the position, from 0, of the first byte that cannot stand there")
    static void faultIsTheFirstWrongByte() {
        faultIs("x", 0);
        faultIs("xy", 0);
        faultIs("tx", 1);
        faultIs("  x", 2);
        faultIs("AB", 1);
        faultIs("A B", 2);
        faultIs("A1", 1);
        faultIs("A+", 1);
        faultIs(":A", 1);
        faultIs("::1A", 1);
        faultIs(": :1A", 2);
        faultIs(":tA", 1);
        faultIs(":1:A", 3);
        faultIs("+A:", 3);
        faultIs("+ABC", 3);
        faultIs("zAB ~", 4);
        // The bytes beside the digits and beside the operators.
        faultIs(":/A", 1);
        faultIs("::", 1);
        faultIs("/", 0);
        faultIs(";", 0);
        for (char wrong : "),-y{dfnpsuTZO".toCharArray()) {
            faultIs("+A" + wrong, 2);
        }
        faultIs("t".repeat(79) + "x", 79);
        faultIs("A" + " ".repeat(78) + "B", 79);
    }

    @Says(in = "TERMS", words = "if the text ends too early, it is the length of the text")
    static void faultOfATextThatEndsTooEarly() {
        faultIs("", 0);
        faultIs(" ", 1);
        faultIs(":", 1);
        faultIs(": ", 2);
        faultIs(":1", 2);
        faultIs(":1  ", 4);
        faultIs("t", 1);
        faultIs("e", 1);
        faultIs("o", 1);
        faultIs("+", 1);
        faultIs("+A", 2);
        faultIs("*A ", 3);
        faultIs("z:1A", 4);
        faultIs("z+AB", 4);
        faultIs("t".repeat(ROOM), ROOM);
        faultIs("+".repeat(40) + "A".repeat(40), ROOM);
        faultIs("t".repeat(79) + ":", ROOM);
        faultIs("+A" + " ".repeat(78), ROOM);
    }

    // ---- promise 1

    @Says(in = "Promise 1", words = "Creates a judge without equations")
    static void newJudgeHasNoEquations() {
        StreamJudge x = new StreamJudge();
        Check.due("told(1)", x.told(1), 0);
        Check.due("told(2)", x.told(2), 0);
        Check.due("told(3)", x.told(3), 1);
        Check.due("told(6)", x.told(6), 0);
        for (int a = 0; a < 8; a++) {
            Check.due("listing(" + a + ", 0)", x.listing(a, 0), -9);
            Check.due("uses(" + a + ")", x.uses(a), -9);
            Check.due("cycle(" + a + ")", x.cycle(a), -9);
            Check.due("value(" + a + ", 0)", x.value(a, 0), -9);
            Check.due("alike(" + a + ")", x.alike(a), 255 - (1 << a));
        }
    }

    @Says(in = "Promise 1", words = "with the modulus 2 and an empty text")
    static void newJudgeHasModulus2AndNoText() {
        StreamJudge x = new StreamJudge();
        Check.due("told(0)", x.told(0), 2);
        Check.due("told(4)", x.told(4), 0);
        Check.due("fault()", x.fault(), 0);
        Check.due("setModulus(3)", x.setModulus(3), 2);
    }

    @Says(in = "Promise 1", words = "the images keep nothing")
    static void newJudgeKeepsNothing() {
        StreamJudge x = new StreamJudge();
        for (int i = 0; i < 2; i++) {
            Check.due("back(" + i + ")", x.back(i), -2);
            Check.due("changed(0, " + i + ")", x.changed(0, i), -2);
        }
    }

    @Says(in = "Promise 1", words = "and nothing can be undone")
    static void newJudgeHasNothingToUndo() {
        StreamJudge x = new StreamJudge();
        Check.due("told(5)", x.told(5), 0);
        Check.due("undo()", x.undo(), -2);
    }

    // ---- promise 2

    @Says(in = "Promise 2", words = {"Appends a byte to the text", "Returns the new length of the text"})
    static void writeAppends() {
        StreamJudge x = new StreamJudge();
        for (int k = 1; k <= 79; k++) {
            Check.due("write('t') as byte " + k, x.write('t'), k);
        }
        Check.due("write('H') as byte 80", x.write('H'), 80);
        x.define(0);
        Check.due("what was written", Check.listingOf(x, 0), "t".repeat(79) + "H");
    }

    @Says(in = "Promise 2", words = "`code`: the byte, 32 to 126")
    static void writeTakes32And126() {
        StreamJudge x = new StreamJudge();
        Check.due("write(32)", x.write(32), 1);
        Check.due("write(126)", x.write(126), 2);
        Check.due("32 is a blank, 126 no part of a term", x.fault(), 1);
    }

    @Says(in = "Promise 2", words = "BAD if code is out of range")
    static void writeRefusesOtherCodes() {
        int[] codes = {31, 127, 0, -1, 10, 128, 255, 256 + 65, 65536 + 65, -191, Integer.MIN_VALUE, Integer.MAX_VALUE};
        Boundaries.eachIs("write", codes, new StreamJudge()::write, -1);
        Boundaries.eachIs("write into a full text", codes, withText("t".repeat(80))::write, -1);
    }

    @Says(in = "Promise 2", words = "FULL if the text has 80 bytes")
    static void writeRefusesAnEightyFirstByte() {
        StreamJudge x = withText("A".repeat(79));
        Check.due("write into 79 bytes", x.write('A'), 80);
        Check.due("write into 80 bytes", x.write('A'), -3);
        Check.due("write into 80 bytes again", x.write(32), -3);
        Check.due("told(4)", x.told(4), 80);
    }

    // ---- promise 3

    @Says(in = "Promise 3", words = "Empties the text")
    static void wipeEmpties() {
        StreamJudge x = withText("t".repeat(80));
        x.wipe();
        Check.due("bytes behind wipe()", x.told(4), 0);
        Check.due("fault behind wipe()", x.fault(), 0);
        Check.due("define behind wipe()", x.define(0), -2);
        Check.text(x, ":5".repeat(39) + "A");
        Check.due("80 bytes fit again", x.write(' '), 80);
        x.define(0);
        Check.due("nothing is left of what was", Check.listingOf(x, 0), ":5".repeat(39) + "A");
    }

    @Says(in = "Promise 3", words = "Returns the length that it had")
    static void wipeTellsTheLength() {
        Check.due("wipe() of 0", new StreamJudge().wipe(), 0);
        Check.due("wipe() of 1", withText(" ").wipe(), 1);
        Check.due("wipe() of 79", withText("x".repeat(79)).wipe(), 79);
        StreamJudge x = withText("x".repeat(80));
        Check.due("wipe() of 80", x.wipe(), 80);
        Check.due("wipe() behind wipe()", x.wipe(), 0);
    }

    // ---- promise 4

    @Says(in = "Promise 4", words = "Checks the text")
    static void faultOnlyLooks() {
        StreamJudge x = withText("+A");
        Check.due("fault()", x.fault(), 2);
        Check.due("fault() again", x.fault(), 2);
        Check.due("told(4)", x.told(4), 2);
        Check.due("told(5)", x.told(5), 0);
        Check.due("the text can be gone on with", x.write('B'), 3);
        Check.due("fault() then", x.fault(), -9);
    }

    @Says(in = "Promise 4", words = "Returns its fault")
    static void faultFromTheFirstToTheLastPosition() {
        faultIs("", 0);
        faultIs("?", 0);
        faultIs("t".repeat(79) + "?", 79);
        faultIs("t".repeat(80), 80);
    }

    @Says(in = "Promise 4", words = "NONE if it is the text of a term")
    static void faultIsNoneForATerm() {
        for (String text : new String[] {"0", "9", "A", "H", ":0A", ":90", "tA", "+AB", "*01", "zAH", "eA", "oA"}) {
            faultIs(text, -9);
        }
        faultIs("t".repeat(79) + "0", -9);
        faultIs("+".repeat(39) + "A".repeat(40), -9);
    }
}
