/** Promises 15 to 19: value, stream, parting, alike, needs. */
public final class ValuesTest {
    private ValuesTest() {
    }

    public static void main(String[] args) {
        testRulesOfTerms();
        testValuesThatAreStuck();
        testGreatIndices();
        testValueErrors();
        testReachAndSums();
        testPeriods();
        testParting();
        testAlike();
        testNeeds();
        testNeedsErrors();
        testLongWays();
        Check.finish();
    }

    private static void valuesAre(String equation, String want) {
        StreamJudge x = Check.judge(10, equation, ":0+1B", ":1*2C");
        Check.due("values of " + equation, Check.valuesOf(x, 0, want.length()), want);
    }

    /** B counts 0123456789012.., C doubles 1248624862.. modulo 10. */
    private static void testRulesOfTerms() {
        valuesAre("B", "012345678901");
        valuesAre("C", "124862486248");
        valuesAre("7", "77777");
        valuesAre(":7B", "701234567890");
        valuesAre("tB", "123456789012");
        valuesAre("+BC", "136107054");
        valuesAre("*BC", "028440468");
        valuesAre("zBC", "0112243846");
        valuesAre("eB", "024680246");
        valuesAre("oB", "135791357");
        valuesAre("zeBoB", "0123456789");
        valuesAre(":1:1+AtA", "1123583145943707");
        valuesAre("*99", "11");
        valuesAre("o:5eB", "048260");
    }

    private static void testValuesThatAreStuck() {
        valuesAre("A", "????");
        valuesAre("tA", "????");
        valuesAre("D", "????");
        valuesAre("*0A", "????");
        valuesAre("+BD", "????");
        valuesAre(":1:2D", "12??");
        valuesAre("zAB", "?00102");
        valuesAre(":5zDB", "5?0?1?2");
        valuesAre("zBA", "0010");
        valuesAre(":5zAB", "5505102");
        StreamJudge x = Check.judge(10, "tB", ":1B", "ttttB", "eB");
        Check.due("value(0, 398)", x.value(0, 398), 1);
        Check.due("value(0, 399)", x.value(0, 399), -9);
        Check.due("value(2, 395)", x.value(2, 395), 1);
        Check.due("value(2, 396)", x.value(2, 396), -9);
        Check.due("value(3, 199)", x.value(3, 199), 1);
        Check.due("value(3, 200)", x.value(3, 200), -9);
        // A tail below a front does not leave what can be computed.
        Check.equation(x, 4, ":1tB");
        Check.due("value(4, 399)", x.value(4, 399), 1);
        Check.equation(x, 5, "t:1B");
        Check.due("value(5, 399)", x.value(5, 399), 1);
        // A value that needs itself over another one is stuck, and so is who needs it; others go on.
        StreamJudge y = Check.judge(10, ":1tB", ":2tA", ":7A", "zAC");
        Check.due("values of A", Check.valuesOf(y, 0, 4), "1???");
        Check.due("values of B", Check.valuesOf(y, 1, 4), "2???");
        Check.due("values of C", Check.valuesOf(y, 2, 4), "71??");
        Check.due("values of D", Check.valuesOf(y, 3, 6), "17?1??");
    }

    private static void testGreatIndices() {
        StreamJudge x = Check.judge(10, "e".repeat(29) + "5", "e".repeat(30) + "5", "o".repeat(29) + "5", "o".repeat(30) + "5");
        Check.due("2^29", x.value(0, 1), 5);
        Check.due("2^30", x.value(1, 1), -9);
        Check.due("0 in all", x.value(1, 0), 5);
        Check.due("odds, 2^29 - 1", x.value(2, 0), 5);
        Check.due("odds, 2^30 - 1", x.value(3, 0), -9);
        Check.due("odds, 2^30 - 1", x.value(2, 1), -9);
        Check.equation(x, 4, Check.upTo(1000000000) + "5");
        Check.due("1000000000", x.value(4, 0), 5);
        Check.equation(x, 4, Check.upTo(1000000000) + "t5");
        Check.due("1000000001", x.value(4, 0), -9);
        Check.equation(x, 4, Check.upTo(1000000000) + ":1:25");
        Check.due("999999998 below fronts", x.value(4, 0), 5);
        Check.equation(x, 4, Check.upTo(1000000000) + "t:1:25");
        Check.due("a front at 1000000001", x.value(4, 0), -9);
        Check.equation(x, 4, Check.upTo(1000000000) + "zA5");
        Check.due("a stream at 500000000", x.value(4, 0), -9);
        Check.equation(x, 4, Check.upTo(999999999) + "zA5");
        Check.due("the other operand", x.value(4, 0), 5);
        Check.equation(x, 4, "z5" + "e".repeat(60) + "6");
        Check.due("what is not needed counts not", x.value(4, 2), 5);
        Check.due("e of 0", x.value(4, 1), 6);
        Check.due("e of 1, too great", x.value(4, 3), -9);
        Check.equation(x, 4, ":3" + "o".repeat(70) + "6");
        Check.due("a front's digit", x.value(4, 0), 3);
        Check.due("behind a front", x.value(4, 1), -9);
        Check.equation(x, 4, "*0" + "o".repeat(70) + "6");
        Check.due("both operands are needed", x.value(4, 0), -9);
    }

    private static void testValueErrors() {
        StreamJudge x = Check.judge(2, "1");
        Check.due("value(-1, 0)", x.value(-1, 0), -1);
        Check.due("value(8, 0)", x.value(8, 0), -1);
        Check.due("value(0, -1)", x.value(0, -1), -1);
        Check.due("value(0, 400)", x.value(0, 400), -1);
        Check.due("value(0, 399)", x.value(0, 399), 1);
        Check.due("stream(-1, 0)", x.stream(-1, 0), -1);
        Check.due("stream(8, 0)", x.stream(8, 0), -1);
        Check.due("stream(0, -1)", x.stream(0, -1), -1);
        Check.due("stream(0, 6)", x.stream(0, 6), -1);
        Check.due("parting(-1, 0)", x.parting(-1, 0), -1);
        Check.due("parting(0, 8)", x.parting(0, 8), -1);
        Check.due("alike(-1)", x.alike(-1), -1);
        Check.due("alike(8)", x.alike(8), -1);
    }

    private static void streamIs(StreamJudge x, int a, int... want) {
        for (int what = 0; what < want.length; what++) {
            Check.due("stream(" + a + ", " + what + ")", x.stream(a, what), want[what]);
        }
    }

    private static void testReachAndSums() {
        StreamJudge x = Check.judge(10, ":0+1A", "tA", ":3:3:5B", "eA", ":4G", "F", "H");
        streamIs(x, 0, 4, 400, 10, 1800, 10, 0);
        streamIs(x, 1, 2, 399, 10, 1800, 10, 0);
        // 3 3 5, and then all but the last three of 1 2 3 ..
        streamIs(x, 2, 4, 400, 10, 11 + 1800 - 8 - 9 - 0, 10, 3);
        streamIs(x, 3, 2, 200, 5, 800, 5, 0);
        streamIs(x, 4, 2, 1, 1, 4, -9, -9);
        streamIs(x, 5, 1, 0, 0, 0, -9, -9);
        streamIs(x, 7, -9, 0, 0, 0, -9, -9);
    }

    private static void periodIs(String equation, int p, int q) {
        StreamJudge x = Check.judge(10, equation, ":0+1B", ":1+1B");
        Check.due("period of " + equation, x.stream(0, 4), p);
        Check.due("what is before the period of " + equation, x.stream(0, 5), q);
    }

    private static void testPeriods() {
        periodIs("5", 1, 0);
        periodIs(":15", 1, 1);
        periodIs(":5:15", 1, 2);
        periodIs(":5:5:55", 1, 0);
        periodIs("z12", 2, 0);
        periodIs("z1z23", 4, 0);
        periodIs(":1:2:3A", 3, 0);
        periodIs("B", 10, 0);
        periodIs(":0B", 10, 1);
        periodIs(":9B", 10, 0);
        periodIs(":0:1+AtA", 60, 0);
        periodIs(":1zAe:1+1A", -9, -9);
        periodIs("D", -9, -9);
        testLatePeriods();
    }

    private static StreamJudge withFronts(int fronts, String digits, String rest) {
        StreamJudge x = Check.judge(10);
        Check.equation(x, 0, "+B" + rest);
        StringBuilder text = new StringBuilder();
        for (int k = 0; k < fronts; k++) {
            text.append(':').append(digits.charAt(k % digits.length()));
        }
        Check.equation(x, 1, text.append("1").toString());
        return x;
    }

    /** With q + 2 * p at the bound of 200: a 1 at 197 leaves just two equal values, one at 198 leaves none. */
    private static void testLatePeriods() {
        for (int last = 190; last < 200; last++) {
            StreamJudge x = oneAt(last);
            Check.due("sum of a single 1 at " + last, x.stream(0, 3), 1);
            Check.due("value at " + last, x.value(0, last), 1);
            // From the 1 on there are 199 - last zeros; two of them are needed, or all before it is the same.
            Check.due("p with a 1 at " + last, x.stream(0, 4), last <= 197 ? 1 : -9);
            Check.due("q with a 1 at " + last, x.stream(0, 5), last <= 197 ? last + 1 : -9);
        }
        StreamJudge x = oneAt(200);
        Check.due("p with a 1 at 200", x.stream(0, 4), 1);
        Check.due("q with a 1 at 200", x.stream(0, 5), 0);
        Check.due("p of a ring of 99", ring(99).stream(0, 4), 99);
        Check.due("p of a ring of 100", ring(100).stream(0, 4), 100);
        Check.due("q of a ring of 100", ring(100).stream(0, 5), 0);
        Check.due("p of a ring of 101", ring(101).stream(0, 4), -9);
        Check.due("q of a ring of 101", ring(101).stream(0, 5), -9);
        StreamJudge y = withFronts(39, "123", "0");
        Check.due("p behind 39 fronts", y.stream(0, 4), 1);
        Check.due("q behind 39 fronts", y.stream(0, 5), 39);
    }

    /** A stream with a 1 at one index and 0 elsewhere, by fronts in three equations. */
    private static StreamJudge oneAt(int index) {
        StreamJudge x = Check.judge(10);
        int rest = index;
        for (int a = 0; a < 7; a++) {
            int fronts = Math.min(rest, 38);
            Check.equation(x, a, ":0".repeat(fronts) + (char) ('B' + a));
            rest -= fronts;
        }
        Check.equation(x, 7, ":10");
        return x;
    }

    /** A stream that has a 1 at 199 and at all distances from it that are multiples of the length, and 0 elsewhere. */
    private static StreamJudge ring(int length) {
        StringBuilder fronts = new StringBuilder();
        for (int k = 0; k < length; k++) {
            fronts.append(k == 199 % length ? ":1" : ":0");
        }
        return Check.judge(10, fronts.substring(0, 76) + "B", fronts.substring(76, 152) + "C",
            fronts.substring(152) + "A");
    }

    private static void testParting() {
        StreamJudge x = Check.judge(10, ":1:2:35", ":1:2:45", ":1zE3", "tB", "", ":1:2zE7", "5");
        Check.due("parting(0, 0)", x.parting(0, 0), -9);
        Check.due("parting(0, 1)", x.parting(0, 1), 2);
        Check.due("parting(1, 0)", x.parting(1, 0), 2);
        Check.due("parting(0, 2), beyond a value that is stuck", x.parting(0, 2), 4);
        Check.due("parting(0, 3)", x.parting(0, 3), 0);
        Check.due("parting(0, 4), without an equation", x.parting(0, 4), -9);
        Check.due("parting(4, 7), both without one", x.parting(4, 7), -9);
        // 1 2 ? 7 ? 7 against 1 2 3 5 5 5: both are first computed and different at 3.
        Check.due("parting(0, 5)", x.parting(0, 5), 3);
        Check.due("parting(5, 6)", x.parting(5, 6), 0);
    }

    private static void testAlike() {
        StreamJudge x = Check.judge(2, "z01", ":0+1B", ":0:1C", "", ":0E", "", ":0:1:0A", "e:0A");
        // B is 0 1 0 1 .., as A and C; H is 0 and then A at the odd indices before.
        Check.due("alike(0)", x.alike(0), 2 + 4);
        Check.due("alike(1)", x.alike(1), 1 + 4);
        Check.due("alike(2)", x.alike(2), 1 + 2);
        Check.due("alike(3), the others without an equation", x.alike(3), 32);
        Check.due("alike(4)", x.alike(4), 0);
        // The same reach, and parting only beyond it.
        StreamJudge y = Check.judge(10, ":1zD5", ":1zD6", ":1zD5", "", ":1zD5", "", ":1:2D");
        Check.due("alike beyond the reach", y.alike(0), 4 + 16);
        Check.due("alike beyond the reach", y.alike(1), 0);
        Check.due("another reach", y.alike(6), 0);
    }

    private static void needsAre(StreamJudge x, int a, int i, int... want) {
        for (int what = 0; what < want.length; what++) {
            Check.due("needs(" + a + ", " + i + ", " + what + ")", x.needs(a, i, what), want[what]);
        }
    }

    private static void testNeeds() {
        StreamJudge x = Check.judge(10, ":0:1+AtA", "+AtC", ":5*CC", "7", "*0D", "zAB", "t:3F", "+DD");
        needsAre(x, 0, 0, 0, 0, -9, 0);
        needsAre(x, 0, 1, 0, 0, -9, 0);
        needsAre(x, 0, 2, 2, 1, 1, 1);
        needsAre(x, 0, 5, 5, 4, 4, 1);
        needsAre(x, 1, 0, 3, 2, 1, 2);
        needsAre(x, 1, 5, 6 + 7, 7, 6, 2);
        needsAre(x, 3, 399, 0, 0, -9, 0);
        needsAre(x, 4, 17, 1, 1, 17, 1);
        needsAre(x, 5, 5, 1 + 3 + 4, 5, 3, 3);
        needsAre(x, 6, 4, 4, 3, 4, 2);
        needsAre(x, 7, 9, 1, 1, 9, 1);
        needsAre(x, 0, 399, 399, 398, 398, 1);
        StreamJudge y = Check.judge(10, "B", "C", ":1C");
        needsAre(y, 0, 2, 4, 4, 2, 2);
    }

    private static void testNeedsErrors() {
        StreamJudge x = Check.judge(10, ":1A", "B", "tA");
        Check.due("needs(1, 0, 0) of what is stuck", x.needs(1, 0, 0), -9);
        Check.due("needs(1, 0, 2) of what is stuck", x.needs(1, 0, 2), -9);
        Check.due("needs(2, 399, 1) of what is stuck", x.needs(2, 399, 1), -9);
        Check.due("needs(2, 398, 1)", x.needs(2, 398, 1), 400);
        Check.due("needs(3, 0, 3) without an equation", x.needs(3, 0, 3), -9);
        Check.due("needs(8, 0, 0)", x.needs(8, 0, 0), -1);
        Check.due("needs(-1, 0, 0)", x.needs(-1, 0, 0), -1);
        Check.due("needs(0, 400, 0)", x.needs(0, 400, 0), -1);
        Check.due("needs(0, -1, 0)", x.needs(0, -1, 0), -1);
        Check.due("needs(0, 0, 4)", x.needs(0, 0, 4), -1);
        Check.due("needs(0, 0, -1)", x.needs(0, 0, -1), -1);
        Check.due("needs(1, 0, 4) of what is stuck", x.needs(1, 0, 4), -1);
    }

    /** Ways through nearly all values there are: 400 indices times eight streams. */
    private static void testLongWays() {
        StreamJudge w = Check.judge(10, ":1H", "+1A", "+1B", "+1C", "+1D", "+1E", "+1F", "+1G");
        Check.due("value(7, 399), the first value asked for", w.value(7, 399), (399 * 7 + 1 + 7) % 10);
        StreamJudge x = Check.judge(10, ":1H", "+1A", "+1B", "+1C", "+1D", "+1E", "+1F", "+1G");
        Check.due("told(6)", x.told(6), 8);
        needsAre(x, 7, 399, 3199, 3199, 399, 8);
        Check.due("value(7, 399)", x.value(7, 399), (399 * 7 + 1 + 7) % 10);
        StreamJudge y = Check.judge(10, "H", "+1A", "+1B", "+1C", "+1D", "+1E", "+1F", "+1G");
        Check.due("told(6) of a ring", y.told(6), 0);
        Check.due("value(3, 200) of a ring", y.value(3, 200), -9);
    }
}
