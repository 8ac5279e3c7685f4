/** The boundary cases of what the document says of values: VALUES, and promises 15 to 19. */
public final class BoundaryValuesTest {
    private static final int GREATEST = 1000000000;

    private BoundaryValuesTest() {
    }

    public static void main(String[] args) throws Exception {
        Boundaries.run(BoundaryValuesTest.class);
    }

    private static void valueIs(int want, int i, String... equations) {
        String call = "value(0, " + i + ") of " + String.join(", ", equations);
        Check.due(call, Check.judge(10, equations).value(0, i), want);
    }

    private static void reachIs(int want, String... equations) {
        Check.due("reach of " + String.join(", ", equations), Check.judge(10, equations).stream(0, 1), want);
    }

    /** A judge whose stream first begins with the given values (39 in an equation) and then is 0, if there is room. */
    private static StreamJudge beginning(int first, String values) {
        StreamJudge x = Check.judge(10);
        String rest = values;
        for (int a = first; a < 8; a++) {
            int count = Math.min(rest.length(), 39);
            String fronts = rest.substring(0, count).replaceAll("(.)", ":$1");
            rest = rest.substring(count);
            Check.equation(x, a, fronts + (rest.isEmpty() ? "0" : "" + (char) ('B' + a)));
        }
        return x;
    }

    private static String oneAt(int index) {
        return "0".repeat(index) + "1";
    }

    // ---- VALUES

    @Says(in = "VALUES", words = {"A value of a stream is needed at once by a term at an index if the rules above name it",
        "there; both operands of + and * are needed"})
    static void bothOperandsAreNeeded() {
        // D has no equation: a factor of 0 does not save the product, and an operand of zip only where it is named.
        valueIs(-9, 0, "*0D");
        valueIs(-9, 0, "*D0");
        valueIs(-9, 0, "+0D");
        valueIs(-9, 0, "+D0");
        valueIs(0, 0, "z0D");
        valueIs(-9, 1, "z0D");
        valueIs(3, 0, ":3D");
        valueIs(-9, 1, ":3D");
        StreamJudge x = Check.judge(10, "*0B", "7", "z5B", ":1B");
        Check.due("needs of a product with 0", x.needs(0, 5, 0), 1);
        Check.due("needs of a zip at its other operand", x.needs(2, 4, 0), 0);
        Check.due("needs of a zip", x.needs(2, 5, 0), 1);
        Check.due("needs of a front at 0", x.needs(3, 0, 0), 0);
        Check.due("needs of a front at 1", x.needs(3, 1, 0), 1);
    }

    @Says(in = "VALUES", words = {"A value at an index from 0 to 399 can be computed if the stream has an equation",
        "and all values that this equation needs at once at this index can be computed"})
    static void valuesFrom0To399() {
        StreamJudge x = Check.judge(10, ":1+1A", "", ":5:6B", "+AC");
        Check.due("value(0, 0)", x.value(0, 0), 1);
        Check.due("value(0, 399)", x.value(0, 399), 0);
        Check.due("value(1, 0) without an equation", x.value(1, 0), -9);
        Check.due("value(1, 399) without an equation", x.value(1, 399), -9);
        Check.due("value(2, 1)", x.value(2, 1), 6);
        Check.due("value(2, 2)", x.value(2, 2), -9);
        Check.due("value(3, 1)", x.value(3, 1), 8);
        Check.due("value(3, 2)", x.value(3, 2), -9);
        Check.equation(x, 1, "7");
        Check.due("value(3, 2) with an equation", x.value(3, 2), 0);
        Check.due("value(3, 399) with an equation", x.value(3, 399), 7);
    }

    @Says(in = "VALUES", words = "only values that follow from this finitely often can be computed")
    static void valuesThatNeedThemselves() {
        valueIs(-9, 0, "A");
        valueIs(-9, 399, "A");
        valueIs(-9, 0, "*0A");
        valueIs(-9, 5, ":1tA");
        valueIs(-9, 0, "B", "A");
        valueIs(-9, 0, "+1B", "C", "D", "E", "F", "G", "H", "A");
        valueIs(-9, 0, "zAB", "5");
        valueIs(5, 1, "zAB", "5");
        // Stuck where it needs itself, and not elsewhere, whatever is asked first.
        StreamJudge x = Check.judge(10, ":1tB", ":2tA", "zA7");
        Check.due("values of C", Check.valuesOf(x, 2, 6), "17?7?7");
        Check.due("values of A", Check.valuesOf(x, 0, 4), "1???");
        Check.due("values of B", Check.valuesOf(x, 1, 4), "2???");
        // The longest way that has an end goes through all 3200 values.
        StreamJudge y = Check.judge(10, ":1H", "+1A", "+1B", "+1C", "+1D", "+1E", "+1F", "+1G");
        Check.due("the end of the longest way", y.value(7, 399), (1 + 7 * 400) % 10);
        StreamJudge z = Check.judge(10, "tH", "A", "B", "C", "D", "E", "F", "G");
        Check.due("the beginning of a way without an end", z.value(0, 0), -9);
        Check.due("the middle of it", z.value(4, 200), -9);
    }

    @Says(in = "VALUES", words = "and values of streams at indices above 399 cannot")
    static void streamsEndAt399() {
        valueIs(5, 398, "tB", "5");
        valueIs(-9, 399, "tB", "5");
        valueIs(5, 399, "t5");
        valueIs(5, 199, "eB", "5");
        valueIs(-9, 200, "eB", "5");
        valueIs(5, 200, "e5");
        valueIs(5, 199, "oB", "5");
        valueIs(-9, 200, "oB", "5");
        valueIs(5, 399, ":1tB", "5");
        valueIs(5, 399, "t:1B", "5");
        valueIs(-9, 399, "*0tB", "5");
        valueIs(5, 320, "t".repeat(79) + "B", "5");
        valueIs(-9, 321, "t".repeat(79) + "B", "5");
        // Who needs such a value is stuck in turn.
        reachIs(398, "tB", "tC", "5");
        reachIs(399, "B", "tC", "5");
    }

    @Says(in = "VALUES", words = {"If any term within an equation, also a constant, would be needed at an index above",
        "1000000000, the value cannot be computed either"})
    static void termsEndAt1000000000() {
        String up = Check.upTo(GREATEST);
        valueIs(5, 0, up + "5");
        valueIs(-9, 0, up + "t5");
        valueIs(5, 0, up + ":15");
        valueIs(-9, 0, up + "t:15");
        valueIs(0, 0, up + "+55");
        valueIs(-9, 0, up + "t+55");
        valueIs(5, 0, up + "*55");
        valueIs(-9, 0, up + "t*55");
        valueIs(5, 0, up + "z56");
        valueIs(-9, 0, up + "tz56");
        valueIs(-9, 0, up + "e5");
        valueIs(-9, 0, up + "o5");
        valueIs(5, 0, Check.upTo(GREATEST - 1) + "t5");
        valueIs(6, 0, Check.upTo(GREATEST - 1) + "z56");
        valueIs(5, 0, Check.upTo(GREATEST / 2) + "e5");
        valueIs(-9, 0, Check.upTo(GREATEST / 2) + "te5");
        valueIs(-9, 0, Check.upTo(GREATEST / 2) + "o5");
        valueIs(5, 0, Check.upTo(GREATEST / 2 - 1) + "o5");
        valueIs(-9, 0, up + "B", "5");
        valueIs(5, 0, up + "z5B", "5");
        // Doubling goes far beyond what an int holds, and never comes back.
        for (int count = 23; count <= 79; count++) {
            valueIs(5, 0, "e".repeat(count) + "5");
            valueIs(-9, 399, "e".repeat(count) + "5");
            valueIs(count <= 29 ? 5 : -9, 1, "e".repeat(count) + "5");
            valueIs(count <= 29 ? 5 : -9, 0, "o".repeat(count) + "5");
            valueIs(-9, 1, "e".repeat(count) + "B", "5");
        }
        valueIs(5, 399, "e".repeat(21) + "5");
        valueIs(-9, 399, "e".repeat(22) + "5");
        // A term that is not needed is no matter; one operand of two is enough.
        valueIs(5, 0, "z5" + up + "t6");
        valueIs(3, 0, ":3" + "o".repeat(40) + "6");
        valueIs(-9, 1, ":3" + "o".repeat(40) + "6");
        valueIs(-9, 0, "+1" + up + "t6");
        valueIs(-9, 0, "*" + up + "t60");
        valueIs(-9, 0, "+B" + up + "t6", "5");
    }

    @Says(in = "VALUES", words = "The reach of a stream is the least index at which its value cannot be computed")
    static void reachIsTheLeastIndex() {
        reachIs(0, "D");
        reachIs(0, "");
        reachIs(1, ":1D");
        reachIs(39, ":1".repeat(39) + "D");
        reachIs(200, "eB", "5");
        reachIs(399, "tB", "5");
        // Values beyond the reach may be computed all the same.
        reachIs(1, "z5D");
        valueIs(5, 398, "z5D");
        reachIs(0, "zD5");
        valueIs(5, 399, "zD5");
    }

    @Says(in = "VALUES", words = "it is 400 if there is none")
    static void reachIs400() {
        reachIs(400, "5");
        reachIs(400, ":1A");
        reachIs(400, "t:1B", "5");
        reachIs(400, ":1tB", "5");
        reachIs(400, "zBC", "tC", "5");
        reachIs(399, "zBC", "5", "eD", "ttB");
    }

    @Says(in = "VALUES", words = {"The values that a value needs are those that it needs at once, and those that these",
        "need, and so on, each counted once"})
    static void needsAreCountedOnce() {
        StreamJudge x = Check.judge(10, "+BB", "5", "+A+B+AB", ":1+DD", "zDD");
        Check.due("needs(0, 0, 0)", x.needs(0, 0, 0), 1);
        Check.due("needs(1, 0, 0)", x.needs(1, 0, 0), 0);
        Check.due("needs(2, 0, 0)", x.needs(2, 0, 0), 2);
        Check.due("needs(3, 399, 0)", x.needs(3, 399, 0), 399);
        Check.due("needs(4, 399, 0)", x.needs(4, 399, 0), 200);
        // The same stream at another index is another value.
        StreamJudge y = Check.judge(10, "+B+tBttB", "5");
        Check.due("needs(0, 0, 0)", y.needs(0, 0, 0), 3);
    }

    @Says(in = "VALUES", words = "and it itself not (if it can be computed)")
    static void needsDoNotCountItself() {
        StreamJudge x = Check.judge(10, ":1A", "B");
        Check.due("needs(0, 0, 0)", x.needs(0, 0, 0), 0);
        Check.due("needs(0, 1, 0)", x.needs(0, 1, 0), 1);
        Check.due("needs(0, 399, 2)", x.needs(0, 399, 2), 398);
        Check.due("needs(1, 0, 0), which needs itself", x.needs(1, 0, 0), -9);
    }

    @Says(in = "VALUES", words = "Its rank is 0 if it needs none")
    static void rankIs0() {
        StreamJudge x = Check.judge(10, "5", ":3A", "+1*23", "z4A");
        Check.due("rank of a constant at 0", x.needs(0, 0, 1), 0);
        Check.due("rank of a constant at 399", x.needs(0, 399, 1), 0);
        Check.due("rank of a front at 0", x.needs(1, 0, 1), 0);
        Check.due("rank of a front at 1", x.needs(1, 1, 1), 1);
        Check.due("rank of a sum of constants", x.needs(2, 7, 1), 0);
        Check.due("rank of a zip at its constant", x.needs(3, 398, 1), 0);
        Check.due("rank of a zip at its stream", x.needs(3, 399, 1), 1);
    }

    @Says(in = "VALUES", words = "otherwise 1 plus the greatest rank of the values that it needs at once")
    static void rankIsTheLongestWay() {
        StreamJudge x = Check.judge(10, "+BD", "C", "D", "5", "+DB", "+AD");
        Check.due("rank of D", x.needs(3, 0, 1), 0);
        Check.due("rank of C", x.needs(2, 0, 1), 1);
        Check.due("rank of B", x.needs(1, 0, 1), 2);
        Check.due("rank of A, the first operand is the higher one", x.needs(0, 0, 1), 3);
        Check.due("rank of E, the second operand is the higher one", x.needs(4, 0, 1), 3);
        Check.due("rank of F", x.needs(5, 0, 1), 4);
        StreamJudge y = Check.judge(10, ":1A", "+A:1H", "B", "C", "D", "E", "F", "G");
        Check.due("rank of A at 399", y.needs(0, 399, 1), 399);
        StreamJudge z = Check.judge(10, ":1H", "A", "B", "C", "D", "E", "F", "G");
        Check.due("the greatest rank", z.needs(7, 399, 1), 3199);
    }

    // ---- promise 15

    @Says(in = "Promise 15", words = {"Returns a value of a stream", "Returns the value"})
    static void valueTellsEachValue() {
        StreamJudge x = Check.judge(10, ":0+1A");
        for (int i = 0; i < 400; i++) {
            Check.due("value(0, " + i + ")", x.value(0, i), i % 10);
        }
        StreamJudge y = new StreamJudge();
        Check.equation(y, 7, "1");
        Check.due("value(7, 399)", y.value(7, 399), 1);
    }

    @Says(in = "Promise 15", words = "NONE if it cannot be computed")
    static void valueThatCannotBeComputed() {
        valueIs(-9, 0, "");
        valueIs(-9, 399, "");
        valueIs(-9, 0, "A");
        valueIs(-9, 0, "B");
        valueIs(-9, 399, "tB", "5");
        valueIs(-9, 0, Check.upTo(GREATEST) + "t5");
    }

    @Says(in = "Promise 15", words = {"BAD if there is no such stream or i is out of range", "`a`: the stream",
        "`i`: the index, 0 to 399"})
    static void valueRefusesTheRest() {
        StreamJudge x = Check.judge(10, "1", "2", "3", "4", "5", "6", "7", "8");
        Boundaries.eachIs("value(.., 0)", Boundaries.NO_STREAMS, a -> x.value(a, 0), -1);
        Boundaries.eachIs("value(0, ..)", Boundaries.NO_INDICES, i -> x.value(0, i), -1);
        Boundaries.eachIs("value(7, ..)", Boundaries.NO_INDICES, i -> x.value(7, i), -1);
        Boundaries.eachIs("value(.., 400)", Boundaries.NO_STREAMS, a -> x.value(a, 400), -1);
        Check.due("value(0, 0)", x.value(0, 0), 1);
        Check.due("value(7, 399)", x.value(7, 399), 8);
        Boundaries.eachIs("value(0, ..) without equations", Boundaries.NO_INDICES, i -> new StreamJudge().value(0, i), -1);
    }

    // ---- promise 16

    @Says(in = "Promise 16", words = {"Returns a property of a stream", "0 the size of its equation (NONE if it has none)"})
    static void streamTellsTheSize() {
        StreamJudge x = Check.judge(10, "5", "t".repeat(79) + "B", ":1:1A");
        Check.due("stream(0, 0)", x.stream(0, 0), 1);
        Check.due("stream(1, 0)", x.stream(1, 0), 80);
        Check.due("stream(2, 0)", x.stream(2, 0), 3);
        for (int a = 3; a < 8; a++) {
            Check.due("stream(" + a + ", 0) without an equation", x.stream(a, 0), -9);
        }
    }

    @Says(in = "Promise 16", words = "1 its reach")
    static void streamTellsTheReach() {
        StreamJudge x = Check.judge(10, "5", "tA", "eA", ":1E", "", "zAE", "zEA");
        int[] reaches = {400, 399, 200, 1, 0, 1, 0, 0};
        for (int a = 0; a < 8; a++) {
            Check.due("stream(" + a + ", 1)", x.stream(a, 1), reaches[a]);
        }
    }

    @Says(in = "Promise 16", words = {"2 the number of different values among those before its reach",
        "3 the sum of the values before its reach", "(2 and 3: 0 if there are none)"})
    static void streamTellsNumberAndSum() {
        String[] equations = {":0+1A", "9", "0", "", ":8H", "zBH", "zHB", ":0:9H"};
        int[] different = {10, 1, 1, 0, 1, 1, 0, 2};
        int[] sums = {1800, 3600, 0, 0, 8, 9, 0, 9};
        StreamJudge x = new StreamJudge();
        x.setModulus(10);
        for (int a = 0; a < 7; a++) {
            if (a != 3) {
                Check.equation(x, a, equations[a]);
            }
        }
        for (int a = 0; a < 7; a++) {
            Check.due("stream(" + a + ", 2) of " + equations[a], x.stream(a, 2), different[a]);
            Check.due("stream(" + a + ", 3) of " + equations[a], x.stream(a, 3), sums[a]);
        }
        Check.equation(x, 0, equations[7]);
        Check.due("stream(0, 2) of two values", x.stream(0, 2), different[7]);
        Check.due("stream(0, 3) of two values", x.stream(0, 3), sums[7]);
        // The values at 398 and 399 count, where they are before the reach.
        StreamJudge y = Check.judge(10, "zDD", "tA", "ttA", "zEE");
        Check.equation(y, 4, "z0F");
        Check.equation(y, 5, ":0".repeat(39) + "G");
        Check.equation(y, 6, ":0".repeat(39) + "H");
        Check.equation(y, 7, ":0".repeat(21) + ":70");
        // H is 7 at 21, F at 99, E at 199, D at 398 and 399 (and its reach is 400), A not before 796.
        Check.due("stream(3, 3)", y.stream(3, 3), 14);
        Check.due("stream(3, 2)", y.stream(3, 2), 2);
        Check.equation(y, 0, "tD");
        Check.due("sum up to the index 399", y.stream(0, 3), 14);
        Check.equation(y, 0, ":0D");
        Check.due("sum up to the index 398", y.stream(0, 3), 7);
    }

    /** A 1 at 199 and before it at each distance of the length, so that no lesser p will do; 7 at the first indices. */
    private static StreamJudge ring(int length, int before) {
        StringBuilder values = new StringBuilder("7".repeat(before));
        for (int i = before; i < 200; i++) {
            values.append((199 - i) % length == 0 ? '1' : '0');
        }
        return beginning(0, values.toString());
    }

    private static void periodIs(String what, StreamJudge x, int p, int q) {
        Check.due("p of " + what, x.stream(0, 4), p);
        Check.due("q of " + what, x.stream(0, 5), q);
    }

    @Says(in = "Promise 16", words = {"4 the least p of a period, 5 the length of what is before it",
        "of all pairs of a q from 0 on and a p from 1 on"})
    static void periodsFrom0And1On() {
        periodIs("a constant", Check.judge(10, "5"), 1, 0);
        periodIs("a constant behind another value", Check.judge(10, ":45"), 1, 1);
        periodIs("a constant behind itself", Check.judge(10, ":55"), 1, 0);
        periodIs("two in turns", Check.judge(10, "z12"), 2, 0);
        periodIs("two in turns behind another value", Check.judge(10, ":1z12"), 2, 1);
        periodIs("two in turns behind the right one", Check.judge(10, ":2z12"), 2, 0);
    }

    @Says(in = "Promise 16", words = "with q + 2 * p not greater than 200")
    static void periodsWithinTwoHundred() {
        periodIs("a 1 at 196", beginning(0, oneAt(196)), 1, 197);
        periodIs("a 1 at 197", beginning(0, oneAt(197)), 1, 198);
        periodIs("a 1 at 198", beginning(0, oneAt(198)), -9, -9);
        // A ring of 99 behind 0 to 4 other values: 2 + 198 is 200.
        for (int before = 0; before <= 4; before++) {
            boolean fits = before <= 2;
            periodIs("a ring of 99 behind " + before, ring(99, before), fits ? 99 : -9, fits ? before : -9);
        }
        // A ring of 100 fits only without anything before it, one of 101 never.
        periodIs("a ring of 100", ring(100, 0), 100, 0);
        periodIs("a ring of 100 behind one", ring(100, 1), -9, -9);
        periodIs("a ring of 101", ring(101, 0), -9, -9);
    }

    @Says(in = "Promise 16",
        words = "for which the values at all indices i and i + p with q <= i and i + p < 200 are the same")
    static void periodsLookAtTheFirstTwoHundred() {
        periodIs("a 1 at 199", beginning(0, oneAt(199)), -9, -9);
        periodIs("a 1 at 200", beginning(0, oneAt(200)), 1, 0);
        periodIs("a 1 at 0", beginning(0, "1"), 1, 1);
        periodIs("a 1 at 1", beginning(0, "01"), 1, 2);
        periodIs("a 1 at 100", beginning(0, oneAt(100)), 1, 101);
        String ring = oneAt(99);
        periodIs("a ring of 100 with another last one", beginning(0, ring + ring.substring(0, 99) + "2"), -9, -9);
        periodIs("a ring of 100 with another one at 200", beginning(0, ring + ring + "2"), 100, 0);
        periodIs("a ring of 100 with another first one", beginning(0, "2" + ring.substring(1) + ring), -9, -9);
    }

    @Says(in = "Promise 16", words = "the one with the least p")
    static void periodsWithTheLeastP() {
        // A ring of 20, whose values at 18 and 19 are the same: so are those at 198 and 199, which is a p of 1.
        String ring = "01234567890123456755";
        periodIs("a ring of 20 with a pair at its end", beginning(0, ring.repeat(10)), 1, 198);
        // With the pair one earlier the p of 1 is none, nor any other one but 20.
        String other = "01234567890123456778";
        periodIs("a ring of 20 with a pair before its end", beginning(0, other.repeat(10)), 20, 0);
        periodIs("a ring of 20, two times 10", beginning(0, "0123456789".repeat(20)), 10, 0);
        periodIs("a ring of 60", Check.judge(10, ":0:1+AtA"), 60, 0);
    }

    @Says(in = "Promise 16", words = "and of those with this p the least q")
    static void periodsWithTheLeastQ() {
        periodIs("fives behind 5 1", Check.judge(10, ":5:15"), 1, 2);
        periodIs("fives behind 1 5", Check.judge(10, ":1:55"), 1, 1);
        periodIs("a ring behind part of it", Check.judge(10, ":2:3B", ":1:2:3B"), 3, 0);
        periodIs("a ring behind what is not part of it", Check.judge(10, ":3:3B", ":1:2:3B"), 3, 1);
        periodIs("39 others", beginning(0, "123".repeat(13)), 1, 39);
    }

    @Says(in = "Promise 16", words = "(NONE if the reach is less than 200, or there is no such pair)")
    static void periodsNeedAReachOf200() {
        periodIs("nothing", new StreamJudge(), -9, -9);
        periodIs("a reach of 0", Check.judge(10, "A"), -9, -9);
        periodIs("a reach of 199", Check.judge(10, "eB", "ttC", "5"), -9, -9);
        Check.due("the reach of 199", Check.judge(10, "eB", "ttC", "5").stream(0, 1), 199);
        periodIs("a reach of 200", Check.judge(10, "eB", "5"), 1, 0);
        periodIs("a reach of 399", Check.judge(10, "tB", "5"), 1, 0);
        periodIs("computed values behind a reach of 0", Check.judge(10, "zH5"), -9, -9);
        StreamJudge x = beginning(0, oneAt(199));
        Check.due("a reach of 400", x.stream(0, 1), 400);
        periodIs("a reach of 400 without such a pair", x, -9, -9);
    }

    @Says(in = "Promise 16", words = {"BAD if there is no such stream or what is out of range", "`a`: the stream",
        "Returns the property"})
    static void streamRefusesTheRest() {
        StreamJudge x = Check.judge(10, "5");
        int[] others = {-1, 6, 7, Integer.MIN_VALUE, Integer.MAX_VALUE};
        for (int what = 0; what <= 5; what++) {
            int property = what;
            Boundaries.eachIs("stream(.., " + what + ")", Boundaries.NO_STREAMS, a -> x.stream(a, property), -1);
        }
        Boundaries.eachIs("stream(0, ..)", others, what -> x.stream(0, what), -1);
        Boundaries.eachIs("stream(7, ..) without an equation", others, what -> x.stream(7, what), -1);
        Check.due("stream(0, 5)", x.stream(0, 5), 0);
    }

    // ---- promise 17

    @Says(in = "Promise 17", words = {"Compares two streams",
        "Returns the least index at which both values can be computed and are different"})
    static void partingFrom0To399() {
        Check.due("parting at 0", Check.judge(10, "1", "2").parting(0, 1), 0);
        Check.due("parting at 1", Check.judge(10, ":11", ":12").parting(0, 1), 1);
        // B is z 0 C; C has a 1 at 199, so B at 399.
        StreamJudge x = beginning(2, oneAt(199));
        Check.equation(x, 0, "0");
        Check.equation(x, 1, "z0C");
        Check.due("parting at 399", x.parting(0, 1), 399);
        Check.due("parting at 399, the other way round", x.parting(1, 0), 399);
        StreamJudge y = beginning(2, oneAt(200));
        Check.equation(y, 0, "0");
        Check.equation(y, 1, "z0C");
        Check.due("parting only behind 399", y.parting(0, 1), -9);
        // Where one of both cannot be computed there is no parting, but there may be one behind it.
        StreamJudge z = Check.judge(10, "1", ":1:1zH2", "z2H", ":1:1:1H");
        Check.due("parting behind one that is stuck", z.parting(0, 1), 3);
        Check.due("parting before one that is stuck", z.parting(0, 2), 0);
        Check.due("parting at the first one that both have", z.parting(2, 3), 0);
        StreamJudge w = Check.judge(10, "zD1", "zD2", "z2D");
        Check.due("parting of two with the same gaps", w.parting(0, 1), 1);
        Check.due("parting of two that never meet", w.parting(0, 2), -9);
    }

    @Says(in = "Promise 17", words = "NONE if there is none")
    static void partingOfWhatIsTheSame() {
        StreamJudge x = Check.judge(10, "z01", ":0:1B", "tB", "D", ":0F");
        Check.due("parting(0, 0)", x.parting(0, 0), -9);
        Check.due("parting(0, 1)", x.parting(0, 1), -9);
        Check.due("parting(0, 3), which is stuck", x.parting(0, 3), -9);
        Check.due("parting(0, 4), as far as it goes", x.parting(0, 4), -9);
        Check.due("parting(0, 7), without an equation", x.parting(0, 7), -9);
        Check.due("parting(7, 0), without an equation", x.parting(7, 0), -9);
        Check.due("parting(6, 7), both without", x.parting(6, 7), -9);
        Check.due("parting(7, 7), without", x.parting(7, 7), -9);
    }

    @Says(in = "Promise 17", words = {"BAD if there is no such stream", "`a`: the one stream", "`b`: the other stream"})
    static void partingRefusesTheRest() {
        StreamJudge x = Check.judge(10, "1", "2");
        Boundaries.eachIs("parting(.., 0)", Boundaries.NO_STREAMS, a -> x.parting(a, 0), -1);
        Boundaries.eachIs("parting(0, ..)", Boundaries.NO_STREAMS, b -> x.parting(0, b), -1);
        Boundaries.eachIs("parting(.., 7)", Boundaries.NO_STREAMS, a -> x.parting(a, 7), -1);
        Boundaries.eachIs("parting(7, ..)", Boundaries.NO_STREAMS, b -> x.parting(7, b), -1);
        Boundaries.eachIs("parting(.., ..)", Boundaries.NO_STREAMS, a -> x.parting(a, a), -1);
    }

    // ---- promise 18

    @Says(in = "Promise 18", words = {"Compares the streams that are alike as far as they are computed",
        "Returns the set of the other streams with the same reach as it that do not part from it",
        "in which bit k stands for the stream k"})
    static void alikeIsASetOfOthers() {
        StreamJudge none = new StreamJudge();
        StreamJudge all = Check.judge(2, "1", "1", "3", "5", ":1E", "A", "t1", "+01");
        StreamJudge odd = Check.judge(10, "0", "1", "2", "3", "4", "5", "6", "7");
        for (int a = 0; a < 8; a++) {
            Check.due("alike(" + a + ") without equations", none.alike(a), 255 - (1 << a));
            Check.due("alike(" + a + ") where all are the same", all.alike(a), 255 - (1 << a));
            Check.due("alike(" + a + ") where none are", odd.alike(a), 0);
        }
        // The same values, but another reach by one.
        StreamJudge x = Check.judge(10, "5", "tA", "tA", "ttA", "tB", ":5A", "", "H");
        int[] sets = {32, 4, 2, 16, 8, 1, 128, 64};
        for (int a = 0; a < 8; a++) {
            Check.due("alike(" + a + ")", x.alike(a), sets[a]);
        }
        // The same reach, and apart at its last value.
        StreamJudge y = Check.judge(10, ":1:2:3H", ":1:2:4H", ":1:2:3H", "8");
        Check.due("alike(0)", y.alike(0), 4);
        Check.due("alike(1)", y.alike(1), 0);
        // Streams part by promise 17, so what is computed beyond the reach counts too.
        StreamJudge z = Check.judge(10, ":1zH5", ":1zH6", ":1zH5", ":1H");
        Check.due("alike(0) beyond the reach", z.alike(0), 4 + 8);
        Check.due("alike(1) beyond the reach", z.alike(1), 8);
        Check.due("alike(3) beyond the reach", z.alike(3), 1 + 2 + 4);
    }

    @Says(in = "Promise 18", words = {"BAD if there is no such stream", "`a`: the stream"})
    static void alikeRefusesOtherStreams() {
        Boundaries.eachIs("alike", Boundaries.NO_STREAMS, Check.judge(10, "1")::alike, -1);
    }

    // ---- promise 19

    @Says(in = "Promise 19", words = {"Returns what a value needs", "0 the number of values that it needs"})
    static void needsTellsTheNumber() {
        StreamJudge x = Check.judge(10, ":1H", "A", "B", "C", "D", "E", "F", "G");
        Check.due("needs(0, 0, 0)", x.needs(0, 0, 0), 0);
        Check.due("needs(1, 0, 0)", x.needs(1, 0, 0), 1);
        Check.due("needs(7, 0, 0)", x.needs(7, 0, 0), 7);
        Check.due("needs(0, 1, 0)", x.needs(0, 1, 0), 8);
        Check.due("needs(7, 399, 0), all that there are", x.needs(7, 399, 0), 3199);
        StreamJudge y = Check.judge(10, "+A1", ":1:1+BtB");
        Check.due("needs(1, 1, 0)", y.needs(1, 1, 0), 0);
        Check.due("needs(1, 399, 0)", y.needs(1, 399, 0), 399);
    }

    @Says(in = "Promise 19", words = "1 its rank")
    static void needsTellsTheRank() {
        StreamJudge x = Check.judge(10, ":1H", "A", "B", "C", "D", "E", "F", "G");
        Check.due("needs(0, 0, 1)", x.needs(0, 0, 1), 0);
        Check.due("needs(7, 0, 1)", x.needs(7, 0, 1), 7);
        Check.due("needs(7, 399, 1)", x.needs(7, 399, 1), 3199);
        StreamJudge y = Check.judge(10, "+B+CD", "5", "B", ":1D");
        Check.due("needs(0, 0, 1)", y.needs(0, 0, 1), 2);
        Check.due("needs(0, 5, 1)", y.needs(0, 5, 1), 6);
    }

    @Says(in = "Promise 19", words = "2 the greatest index of the values that it needs (NONE if it needs none)")
    static void needsTellsTheGreatestIndex() {
        StreamJudge x = Check.judge(10, "5", "A", "tA", "oA", ":1A", "+A+tttAtA", "ttttC");
        Check.due("needs(0, 0, 2)", x.needs(0, 0, 2), -9);
        Check.due("needs(0, 399, 2)", x.needs(0, 399, 2), -9);
        Check.due("needs(1, 0, 2)", x.needs(1, 0, 2), 0);
        Check.due("needs(1, 399, 2)", x.needs(1, 399, 2), 399);
        Check.due("needs(2, 398, 2)", x.needs(2, 398, 2), 399);
        Check.due("needs(3, 199, 2)", x.needs(3, 199, 2), 399);
        Check.due("needs(4, 0, 2)", x.needs(4, 0, 2), -9);
        Check.due("needs(4, 1, 2)", x.needs(4, 1, 2), 0);
        Check.due("needs(5, 7, 2)", x.needs(5, 7, 2), 10);
        Check.due("needs(6, 0, 2)", x.needs(6, 0, 2), 5);
    }

    @Says(in = "Promise 19", words = "3 the number of different streams of the values that it needs")
    static void needsTellsTheNumberOfStreams() {
        StreamJudge x = Check.judge(10, "+B+C+D+E+F+GH", "1", "2", "3", "4", "5", "6", "7");
        Check.due("needs(0, 0, 3), seven others", x.needs(0, 0, 3), 7);
        Check.due("needs(1, 0, 3), none", x.needs(1, 0, 3), 0);
        StreamJudge y = Check.judge(10, ":1H", "A", "B", "C", "D", "E", "F", "G");
        Check.due("needs(0, 0, 3)", y.needs(0, 0, 3), 0);
        Check.due("needs(7, 0, 3)", y.needs(7, 0, 3), 7);
        Check.due("needs(7, 1, 3), its own stream too", y.needs(7, 1, 3), 8);
        StreamJudge z = Check.judge(10, ":1A");
        Check.due("needs(0, 399, 3), one stream often", z.needs(0, 399, 3), 1);
    }

    @Says(in = "Promise 19", words = {"Returns the number; NONE if the value cannot be computed"})
    static void needsOfWhatIsStuck() {
        StreamJudge x = Check.judge(10, "A", "tC", "5", Check.upTo(GREATEST) + "t5");
        for (int what = 0; what <= 3; what++) {
            Check.due("needs(0, 0, " + what + "), stuck", x.needs(0, 0, what), -9);
            Check.due("needs(1, 399, " + what + "), above 399", x.needs(1, 399, what), -9);
            Check.due("needs(3, 0, " + what + "), above 1000000000", x.needs(3, 0, what), -9);
            Check.due("needs(7, 0, " + what + "), without an equation", x.needs(7, 0, what), -9);
        }
        Check.due("needs(1, 398, 0)", x.needs(1, 398, 0), 1);
    }

    @Says(in = "Promise 19", words = {"BAD if there is no such stream, or i or what is out of range", "`a`: the stream",
        "`i`: the index, 0 to 399"})
    static void needsRefusesTheRest() {
        StreamJudge x = Check.judge(10, "5", "B");
        int[] others = {-1, 4, 5, Integer.MIN_VALUE, Integer.MAX_VALUE};
        Boundaries.eachIs("needs(.., 0, 0)", Boundaries.NO_STREAMS, a -> x.needs(a, 0, 0), -1);
        Boundaries.eachIs("needs(0, .., 0)", Boundaries.NO_INDICES, i -> x.needs(0, i, 0), -1);
        Boundaries.eachIs("needs(0, 0, ..)", others, what -> x.needs(0, 0, what), -1);
        Boundaries.eachIs("needs(1, 0, ..), stuck", others, what -> x.needs(1, 0, what), -1);
        Boundaries.eachIs("needs(7, .., 3), without an equation", Boundaries.NO_INDICES, i -> x.needs(7, i, 3), -1);
        Check.due("needs(0, 399, 3)", x.needs(0, 399, 3), 0);
    }
}
