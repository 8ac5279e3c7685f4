/** The boundary cases of what the document says of equations: CYCLES, and promises 11 to 14. */
public final class BoundaryEquationsTest {
    private BoundaryEquationsTest() {
    }

    public static void main(String[] args) throws Exception {
        Boundaries.run(BoundaryEquationsTest.class);
    }

    private static String name(int a) {
        return "" + (char) ('A' + a);
    }

    private static void cycleIs(int want, String... equations) {
        Check.due("cycle(0) of " + String.join(", ", equations), Check.judge(2, equations).cycle(0), want);
    }

    // ---- CYCLES

    @Says(in = "CYCLES", words = "A system is plain if no equation contains z, e or o")
    static void plainIsWithoutThreeKinds() {
        Check.due("told(3) without equations", new StreamJudge().told(3), 1);
        Check.due("told(3) with all other kinds", Check.judge(2, ":1t+*AB5", "H").told(3), 1);
        for (int a = 0; a < 8; a++) {
            for (String kind : new String[] {"zAB", "eA", "oA", "+A:1te5", "*zAAB", "+A+B+Co1"}) {
                StreamJudge x = Check.judge(2, "A", "B", "C", "D", "E", "F", "G", "H");
                Check.due("told(3) before " + kind, x.told(3), 1);
                Check.equation(x, a, kind);
                Check.due("told(3) with " + kind + " for " + name(a), x.told(3), 0);
                Check.due("cycle(0) with " + kind + " for " + name(a), x.cycle(0), -2);
                x.undefine(a);
                Check.due("told(3) without it", x.told(3), 1);
            }
        }
    }

    @Says(in = "CYCLES", words = {"In a plain system, each occurrence of a stream in an equation has a shift: the number of",
        "tails around it minus the number of fronts around it"})
    static void shiftsAreTailsMinusFronts() {
        cycleIs(1000, "A");
        cycleIs(1001, "tA");
        cycleIs(999, ":1A");
        cycleIs(1000, "t:1A");
        cycleIs(1000, ":1tA");
        cycleIs(1001, "tt:1A");
        // Only what is around an occurrence counts, not what is beside it or behind it.
        cycleIs(1000, "+tttBA");
        cycleIs(1000, "+A:1:1B");
        cycleIs(998, ":1+tB:1A");
        cycleIs(1001, "t+:1BA");
        cycleIs(1003, "t*+:1:1B5ttA");
        // Of several occurrences the one with the greatest shift.
        cycleIs(1002, "+:1A+ttAtA");
        cycleIs(1079, "t".repeat(79) + "A");
        cycleIs(961, ":1".repeat(39) + "A");
    }

    @Says(in = "CYCLES", words = "A walk goes from a stream to a stream that occurs in its equation, and so on")
    static void walksFollowOccurrences() {
        cycleIs(-9, "B", "C", "D");
        cycleIs(1000, "B", "C", "D", "A");
        cycleIs(-9, "B", "B");
        cycleIs(-9, "5", "A");
        cycleIs(-9, "+BC", "+CD", "D", "5");
        StreamJudge x = Check.judge(2, "A", "A");
        Check.due("cycle(1), from which a cycle can be reached", x.cycle(1), -9);
    }

    @Says(in = "CYCLES", words = {"it is a cycle if it ends where it began",
        "and all its streams, but for this end, are different"})
    static void cyclesMeetNoStreamTwice() {
        // The loop at B would gain with each turn, but then B would be met twice.
        StreamJudge x = Check.judge(2, ":1:1B", "+ttB:1A");
        Check.due("cycle(0)", x.cycle(0), 997);
        Check.due("cycle(1)", x.cycle(1), 1002);
        // A figure of eight: two cycles through A are not one.
        StreamJudge y = Check.judge(2, "+BC", "tA", "ttA");
        Check.due("cycle(0)", y.cycle(0), 1002);
        Check.due("cycle(1)", y.cycle(1), 1001);
        Check.due("cycle(2)", y.cycle(2), 1002);
        // The ways from B to A and from A to B may not meet in C.
        StreamJudge z = Check.judge(2, "C", "C", "+tAtB");
        Check.due("cycle(0)", z.cycle(0), 1001);
        Check.due("cycle(1)", z.cycle(1), 1001);
        Check.due("cycle(2)", z.cycle(2), 1001);
        // From one stream to all eight.
        for (int count = 1; count <= 8; count++) {
            StreamJudge ring = new StreamJudge();
            for (int a = 0; a < count; a++) {
                Check.equation(ring, a, "t" + name((a + 1) % count));
            }
            for (int a = 0; a < 8; a++) {
                Check.due("cycle(" + a + ") of a ring of " + count, ring.cycle(a), a < count ? 1000 + count : -9);
            }
        }
        // All eight with all others: each walk may gain at every step, but has at most eight of them.
        StreamJudge all = new StreamJudge();
        for (int a = 0; a < 8; a++) {
            Check.equation(all, a, "t+A+B+C+D+E+F+GH");
        }
        for (int a = 0; a < 8; a++) {
            Check.due("cycle(" + a + ") of all", all.cycle(a), 1008);
        }
    }

    @Says(in = "CYCLES", words = "A cycle is bad if the sum of the shifts of its occurrences is 0 or more")
    static void badCyclesAreThoseFrom0On() {
        // A stream that needs itself at the same or a later index is stuck; at an earlier one it is not.
        String[] equations = {":1A", "A", "t:1A", ":1tA", "tA", ":1:1tA"};
        int[] cycles = {999, 1000, 1000, 1000, 1001, 999};
        int[] reaches = {400, 0, 0, 1, 0, 400};
        for (int k = 0; k < equations.length; k++) {
            StreamJudge x = Check.judge(2, equations[k]);
            Check.due("cycle of " + equations[k], x.cycle(0), cycles[k]);
            Check.due("reach of " + equations[k], x.stream(0, 1), reaches[k]);
        }
        StreamJudge x = Check.judge(2, ":1:1B", "tC", "D", "A");
        Check.due("a sum of -1", x.cycle(2), 999);
        Check.due("is not stuck but for the last value", x.stream(1, 1), 399);
        Check.equation(x, 3, "tA");
        Check.due("a sum of 0", x.cycle(2), 1000);
        Check.due("is stuck", x.stream(2, 1), 1);
    }

    // ---- promise 11

    @Says(in = "Promise 11", words = "0 M")
    static void toldModulus() {
        StreamJudge x = new StreamJudge();
        Check.due("told(0)", x.told(0), 2);
        x.setModulus(10);
        Check.due("told(0)", x.told(0), 10);
    }

    @Says(in = "Promise 11", words = "1 streams with an equation")
    static void toldStreamsWithAnEquation() {
        StreamJudge x = new StreamJudge();
        for (int count = 0; count < 8; count++) {
            Check.due("told(1)", x.told(1), count);
            Check.equation(x, 7 - count, "H");
        }
        Check.due("told(1) of all", x.told(1), 8);
        x.define(3);
        Check.due("told(1) behind a second define", x.told(1), 8);
    }

    @Says(in = "Promise 11", words = "2 the sum of the sizes of all equations")
    static void toldSumOfSizes() {
        Check.due("told(2) of none", new StreamJudge().told(2), 0);
        StreamJudge x = withOneText(8, "t".repeat(79) + "A");
        Check.due("told(2) of eight times 80", x.told(2), 640);
        Check.equation(x, 0, "t".repeat(40) + "A");
        x.insert(1, 0);
        Check.due("told(2) with one of 120 and one of 41", x.told(2), 6 * 80 + 120 + 41);
        Check.equation(x, 7, ":9:9H");
        Check.due("told(2), digits of fronts are not counted", x.told(2), 5 * 80 + 120 + 41 + 3);
    }

    @Says(in = "Promise 11", words = "3 whether the system is plain (1 or 0)")
    static void toldPlain() {
        Check.due("told(3) of none", new StreamJudge().told(3), 1);
        Check.due("told(3) of a plain one", Check.judge(2, ":1t+*A12").told(3), 1);
        Check.due("told(3) of z", Check.judge(2, "", "zAA").told(3), 0);
        StreamJudge x = Check.judge(2, "z1e2");
        x.setModulus(3);
        Check.due("told(3) behind another change", x.told(3), 0);
        Check.equation(x, 0, "ezA1");
        x.simplify(0);
        Check.due("told(3) when simplified", x.told(3), 1);
        x.undo();
        Check.due("told(3) behind undo()", x.told(3), 0);
    }

    @Says(in = "Promise 11", words = "4 bytes of the text")
    static void toldBytes() {
        StreamJudge x = new StreamJudge();
        for (int count = 0; count < 80; count++) {
            Check.due("told(4)", x.told(4), count);
            x.write(32 + count);
        }
        Check.due("told(4)", x.told(4), 80);
        x.write('A');
        Check.due("told(4) behind FULL", x.told(4), 80);
        x.wipe();
        Check.due("told(4) behind wipe()", x.told(4), 0);
    }

    @Says(in = "Promise 11", words = "5 changes that can be undone")
    static void toldChanges() {
        StreamJudge x = new StreamJudge();
        for (int count = 0; count < 12; count++) {
            Check.due("told(5) behind " + count, x.told(5), Math.min(count, 8));
            x.setModulus(2);
        }
        for (int left = 7; left >= 0; left--) {
            x.undo();
            Check.due("told(5) behind undo()", x.told(5), left);
        }
        x.undo();
        Check.due("told(5) behind a refused undo()", x.told(5), 0);
    }

    @Says(in = "Promise 11", words = "6 streams whose reach is 400")
    static void toldFullReaches() {
        Check.due("told(6) of none", new StreamJudge().told(6), 0);
        StreamJudge x = Check.judge(2, "5", "tA", "A", ":1A", "t:1A", "zBA");
        // B has the reach 399; F needs B only up to 199.
        Check.due("told(6)", x.told(6), 5);
        Check.equation(x, 6, ":1zAB");
        Check.due("told(6) with one more", x.told(6), 6);
        Check.equation(x, 7, "eA");
        Check.due("told(6) with one whose reach is 200", x.told(6), 6);
        for (int a = 0; a < 8; a++) {
            Check.equation(x, a, "5");
        }
        Check.due("told(6) of all", x.told(6), 8);
        x.undefine(7);
        Check.due("told(6) behind undefine", x.told(6), 7);
    }

    @Says(in = "Promise 11", words = {"Returns the number", "BAD if what is out of range"})
    static void toldRefusesTheRest() {
        int[] others = {-1, 7, 8, 100, Integer.MIN_VALUE, Integer.MAX_VALUE};
        Boundaries.eachIs("told", others, Check.judge(2, "A")::told, -1);
        StreamJudge x = new StreamJudge();
        for (int what = 0; what <= 6; what++) {
            Check.due("told(" + what + ") is a number", x.told(what) >= 0 ? 1 : 0, 1);
        }
    }

    // ---- promise 12

    @Says(in = "Promise 12", words = "Returns a byte of the equation of a stream, written without blanks")
    static void listingIsWithoutBlanks() {
        StreamJudge x = Check.judge(2, "  :  9  z  A + : 0 1 o t H  ");
        Check.due("listing", Check.listingOf(x, 0), ":9zA+:01otH");
        for (String same : new String[] {"A", "H", "0", "9", ":0:9*t1e2"}) {
            Check.due("listing of " + same, Check.listingOf(Check.judge(2, same), 0), same);
        }
    }

    @Says(in = "Promise 12", words = {"`k`: the index of the byte, 0 or more", "Returns its code"})
    static void listingFromTheFirstToTheLastByte() {
        StreamJudge x = Check.judge(2, ":7A");
        Check.due("listing(0, 0)", x.listing(0, 0), ':');
        Check.due("listing(0, 1)", x.listing(0, 1), '7');
        Check.due("listing(0, 2)", x.listing(0, 2), 'A');
        Check.due("listing(0, 3)", x.listing(0, 3), -9);
        // The longest listing: 119 fronts and a stream make 239 bytes.
        StreamJudge y = Check.judge(2, ":1".repeat(39) + "B", ":2".repeat(39) + "C", ":3".repeat(39) + "D", ":4:5E");
        y.insert(0, 1);
        y.insert(0, 2);
        Check.due("insert up to 120", y.insert(0, 3), 120);
        Check.due("the longest listing", Check.listingOf(y, 0),
            ":1".repeat(39) + ":2".repeat(39) + ":3".repeat(39) + ":4:5E");
        Check.due("its last front", y.listing(0, 236), ':');
        Check.due("its last digit", y.listing(0, 237), '5');
        Check.due("its last byte", y.listing(0, 238), 'E');
        Check.due("one more", y.listing(0, 239), -9);
    }

    @Says(in = "Promise 12", words = "NONE if the equation has not so many bytes, or there is none")
    static void listingBehindTheEnd() {
        StreamJudge x = Check.judge(2, "A", "t".repeat(79) + "B", ":1".repeat(39) + "A");
        Check.due("listing(0, 0)", x.listing(0, 0), 'A');
        Check.due("listing(0, 1)", x.listing(0, 1), -9);
        Check.due("listing(1, 79)", x.listing(1, 79), 'B');
        Check.due("listing(1, 80)", x.listing(1, 80), -9);
        Check.due("listing(2, 78)", x.listing(2, 78), 'A');
        Check.due("listing(2, 79)", x.listing(2, 79), -9);
        Check.due("listing(0, greatest)", x.listing(0, Integer.MAX_VALUE), -9);
        for (int a = 3; a < 8; a++) {
            Check.due("listing(" + a + ", 0) without an equation", x.listing(a, 0), -9);
            Check.due("listing(" + a + ", greatest)", x.listing(a, Integer.MAX_VALUE), -9);
        }
    }

    @Says(in = "Promise 12", words = {"BAD if there is no such stream or k is negative", "`a`: the stream"})
    static void listingRefusesTheRest() {
        StreamJudge x = Check.judge(2, "A");
        Boundaries.eachIs("listing(.., 0)", Boundaries.NO_STREAMS, a -> x.listing(a, 0), -1);
        Boundaries.eachIs("listing(.., 99)", Boundaries.NO_STREAMS, a -> x.listing(a, 99), -1);
        int[] negative = {-1, -2, Integer.MIN_VALUE};
        Boundaries.eachIs("listing(0, ..)", negative, k -> x.listing(0, k), -1);
        Boundaries.eachIs("listing(7, ..) without an equation", negative, k -> x.listing(7, k), -1);
    }

    // ---- promise 13

    @Says(in = "Promise 13", words = {"Returns the set of the streams that occur in the equation of a stream",
        "Returns the set, in which bit k stands for the stream k"})
    static void usesIsASet() {
        Check.due("uses of a constant", Check.judge(2, "5").uses(0), 0);
        Check.due("uses of fronts of a constant", Check.judge(2, ":1:25").uses(0), 0);
        for (int k = 0; k < 8; k++) {
            Check.due("uses of " + name(k), Check.judge(2, name(k)).uses(0), 1 << k);
            Check.due("uses of " + name(k) + " within", Check.judge(2, "+1:2t" + name(k)).uses(0), 1 << k);
        }
        Check.due("uses of all", Check.judge(2, "+A+B+C+D+E+F+GH").uses(0), 255);
        Check.due("uses of one often", Check.judge(2, "+A+AA").uses(0), 1);
        Check.due("uses is not what those use", Check.judge(2, "B", "C", "A").uses(0), 2);
        StreamJudge x = Check.judge(2, "", "", "", "", "", "", "", "z1B");
        Check.due("uses(7), also of a stream without an equation", x.uses(7), 2);
    }

    @Says(in = "Promise 13", words = "NONE if it has no equation")
    static void usesWithoutAnEquation() {
        StreamJudge x = new StreamJudge();
        for (int a = 0; a < 8; a++) {
            Check.due("uses(" + a + ")", x.uses(a), -9);
        }
        Check.equation(x, 0, "5");
        Check.due("uses of a constant is another thing", x.uses(0), 0);
        x.undefine(0);
        Check.due("uses behind undefine", x.uses(0), -9);
    }

    @Says(in = "Promise 13", words = {"BAD if there is no such stream", "`a`: the stream"})
    static void usesRefusesOtherStreams() {
        Boundaries.eachIs("uses", Boundaries.NO_STREAMS, Check.judge(2, "A")::uses, -1);
    }

    // ---- promise 14

    @Says(in = "Promise 14", words = {"Tells whether there is a bad cycle that contains a stream",
        "Returns the greatest sum of shifts of a cycle that contains it, plus 1000"})
    static void cycleTellsTheGreatestSum() {
        cycleIs(1000, "A");
        cycleIs(999, ":1A");
        cycleIs(1001, "tA");
        // The greater one of two cycles, whichever comes first and whichever is longer.
        cycleIs(1001, "+tA:1A");
        cycleIs(1001, "+:1AtA");
        cycleIs(1003, "+AB", "tttA");
        cycleIs(1001, "+tAB", ":1A");
        cycleIs(1005, "+B+CD", "tA", "tttttA", "ttA");
        // Far below and far above 1000, through all eight.
        StreamJudge low = new StreamJudge();
        StreamJudge high = new StreamJudge();
        for (int a = 0; a < 8; a++) {
            Check.equation(low, a, ":1".repeat(25) + name((a + 1) % 8));
            Check.equation(high, a, "t".repeat(50) + name((a + 1) % 8));
        }
        for (int a = 0; a < 8; a++) {
            Check.due("a sum of -200", low.cycle(a), 1000 - 8 * 25);
            Check.due("a sum of 400", high.cycle(a), 1000 + 8 * 50);
        }
    }

    /**
     * A ring of seven equations with 119 steps and a last one with fewer: all seven begin with the same text, and what
     * they lack comes in by H, so that a judge's 512 calls are enough.
     */
    private static StreamJudge farRing(String step, int inText, int inLast) {
        StreamJudge x = withOneText(8, step.repeat(inText) + "H");
        int rest = 119 - inText;
        for (; rest > inText; rest -= inText) {
            for (int a = 0; a < 7; a++) {
                x.insert(a, 7);
            }
        }
        for (int a = 0; a < 7; a++) {
            Check.equation(x, 7, step.repeat(rest) + name(a + 1));
            Check.due("insert up to 120", x.insert(a, 7), 120);
        }
        Check.equation(x, 7, step.repeat(inLast) + "A");
        return x;
    }

    /** A judge whose first streams have the same equation. */
    private static StreamJudge withOneText(int streams, String text) {
        StreamJudge x = new StreamJudge();
        Check.text(x, text);
        for (int a = 0; a < streams; a++) {
            x.define(a);
        }
        return x;
    }

    @Says(in = "Promise 14", words = "Returns the greatest sum of shifts of a cycle that contains it, plus 1000")
    static void cycleOfTheGreatestEquations() {
        StreamJudge high = farRing("t", 79, 79);
        Check.due("told(2)", high.told(2), 7 * 120 + 80);
        Check.due("cycle(0)", high.cycle(0), 1000 + 7 * 119 + 79);
        StreamJudge low = farRing(":1", 39, 39);
        Check.due("told(2)", low.told(2), 7 * 120 + 40);
        Check.due("cycle(7)", low.cycle(7), 1000 - 7 * 119 - 39);
    }

    @Says(in = "Promise 14", words = "NONE if there is no cycle that contains it")
    static void cycleWithoutACycle() {
        Check.due("cycle(0) of a new judge", new StreamJudge().cycle(0), -9);
        cycleIs(-9, "5");
        cycleIs(-9, "B");
        cycleIs(-9, "B", "B");
        cycleIs(-9, "", "A");
        // Shifts on the way there and on ways back that do not begin here make no cycle either.
        cycleIs(-9, "ttttB");
        cycleIs(-9, "ttttB", "tttt5");
        cycleIs(-9, "5", "ttttA");
        cycleIs(-9, "tB", "tC", "tB", "tA");
        cycleIs(-9, ":1B", ":1C", ":1B", ":1A");
        StreamJudge x = Check.judge(2, "B", "C", "B");
        Check.due("cycle(0), which only leads to one", x.cycle(0), -9);
        Check.due("cycle(1)", x.cycle(1), 1000);
        Check.due("cycle(7)", x.cycle(7), -9);
        x.undefine(2);
        Check.due("cycle(1) behind undefine", x.cycle(1), -9);
    }

    @Says(in = "Promise 14", words = {"BAD if there is no such stream", "`a`: the stream"})
    static void cycleRefusesOtherStreams() {
        Boundaries.eachIs("cycle", Boundaries.NO_STREAMS, Check.judge(2, "A")::cycle, -1);
        Boundaries.eachIs("cycle, not plain", Boundaries.NO_STREAMS, Check.judge(2, "zAA")::cycle, -1);
    }

    @Says(in = "Promise 14", words = "STATE if the system is not plain")
    static void cycleRefusesWhatIsNotPlain() {
        for (String kind : new String[] {"zAA", "eA", "oA", "o5"}) {
            StreamJudge x = Check.judge(2, "A", "", "", "", "", "", "", kind);
            for (int a = 0; a < 8; a++) {
                Check.due("cycle(" + a + ") with " + kind, x.cycle(a), -2);
            }
            x.undefine(7);
            Check.due("cycle(0) without " + kind, x.cycle(0), 1000);
            Check.due("cycle(1) without " + kind, x.cycle(1), -9);
            x.undo();
            Check.due("cycle(0) behind undo()", x.cycle(0), -2);
        }
    }
}
