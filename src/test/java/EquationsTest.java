/** Promises 11 to 14: told, listing, uses, cycle. */
public final class EquationsTest {
    private EquationsTest() {
    }

    public static void main(String[] args) {
        testTold();
        testListing();
        testUses();
        testCycleOfOne();
        testCycleOfMany();
        testCycleErrors();
        Check.finish();
    }

    private static void testTold() {
        StreamJudge x = Check.judge(7, ":1A", "", "+AC", "", "", "", "", "tttA");
        int[] told = {7, 3, 9, 1, 4, 4, 1};
        for (int what = 0; what < told.length; what++) {
            Check.due("told(" + what + ")", x.told(what), told[what]);
        }
        Check.due("told(-1)", x.told(-1), -1);
        Check.due("told(7)", x.told(7), -1);
        Check.due("told(greatest int)", x.told(Integer.MAX_VALUE), -1);
        for (int a = 0; a < 8; a++) {
            for (String kind : new String[] {"zAB", "eA", "oA", ":1t+Ae1"}) {
                Check.equation(x, a, kind);
                Check.due("told(3) with " + kind + " in " + a, x.told(3), 0);
            }
            x.undefine(a);
            Check.due("told(3) without an equation of " + a, x.told(3), 1);
        }
        StreamJudge y = Check.judge(2, "1", ":1B", "tB", "A", "D", "zBB", "eB", "H");
        Check.due("streams whose reach is 400", y.told(6), 5);
    }

    private static void testListing() {
        StreamJudge x = Check.judge(2, " : 9 z  A +:0 1 o t H ");
        Check.due("listing", Check.listingOf(x, 0), ":9zA+:01otH");
        Check.due("listing(0, 10)", x.listing(0, 10), 'H');
        Check.due("listing(0, 11)", x.listing(0, 11), -9);
        Check.due("listing(0, greatest int)", x.listing(0, Integer.MAX_VALUE), -9);
        Check.due("listing(0, -1)", x.listing(0, -1), -1);
        Check.due("listing(0, least int)", x.listing(0, Integer.MIN_VALUE), -1);
        Check.due("listing(1, 0) without an equation", x.listing(1, 0), -9);
        Check.due("listing(1, -1)", x.listing(1, -1), -1);
        Check.due("listing(8, 0)", x.listing(8, 0), -1);
        Check.due("listing(-1, 0)", x.listing(-1, 0), -1);
        StreamJudge y = Check.judge(2, ":5".repeat(39) + "A");
        y.insert(0, 0);
        Check.equation(y, 1, ":6".repeat(38) + "B");
        y.insert(0, 1);
        Check.due("a long listing", Check.listingOf(y, 0), ":5".repeat(78) + "A");
        Check.equation(y, 1, ":7".repeat(39) + "A");
        y.insert(1, 0);
        Check.due("a listing of 235 bytes", Check.listingOf(y, 1), ":7".repeat(39) + ":5".repeat(78) + "A");
    }

    private static void testUses() {
        StreamJudge x = Check.judge(2, "+A*BH", "5", ":1+CC");
        Check.due("uses(0)", x.uses(0), 1 + 2 + 128);
        Check.due("uses(1)", x.uses(1), 0);
        Check.due("uses(2)", x.uses(2), 4);
        Check.due("uses(3)", x.uses(3), -9);
        Check.due("uses of a single part", Check.judge(2, "G").uses(0), 64);
        Check.due("uses(8)", x.uses(8), -1);
        Check.due("uses(-1)", x.uses(-1), -1);
    }

    private static void cycleIs(String equation, int want) {
        Check.due("cycle of A = " + equation, Check.judge(2, equation).cycle(0), want);
    }

    private static void testCycleOfOne() {
        cycleIs("A", 1000);
        cycleIs("tA", 1001);
        cycleIs(":1A", 999);
        cycleIs(":1:1:1A", 997);
        cycleIs("t:1A", 1000);
        cycleIs("+:1A:1:1A", 999);
        cycleIs("+:1:1A:1A", 999);
        cycleIs("+:1At*1tA", 1002);
        cycleIs("1", -9);
        cycleIs("B", -9);
        cycleIs("t".repeat(79) + "A", 1079);
        cycleIs(":1".repeat(39) + "A", 961);
    }

    private static void testCycleOfMany() {
        StreamJudge x = Check.judge(2, ":1B", "+tA:1C", "D", "tC", "+E:1A");
        Check.due("cycle(0)", x.cycle(0), 1000);
        Check.due("cycle(1)", x.cycle(1), 1000);
        Check.due("cycle(2)", x.cycle(2), 1001);
        Check.due("cycle(3)", x.cycle(3), 1001);
        Check.due("cycle(4)", x.cycle(4), 1000);
        Check.due("cycle(5)", x.cycle(5), -9);
        // A stream may be in a walk only once: the loop at B, which would gain, is no part of a cycle through A.
        StreamJudge y = Check.judge(2, ":1:1B", "+ttB:1A");
        Check.due("no loop on the way", y.cycle(0), 997);
        Check.due("the loop itself", y.cycle(1), 1002);
        // The longer way is the greater one, and then a way through all eight.
        StreamJudge z = Check.judge(2, "+:1B:1C", "A", "tD", "tA");
        Check.due("the longer way", z.cycle(0), 1001);
        StreamJudge w = Check.judge(2, "tB", "tC", "tD", "tE", "tF", "tG", "tH", "tA");
        for (int a = 0; a < 8; a++) {
            Check.due("a cycle of eight, " + a, w.cycle(a), 1008);
        }
        StreamJudge v = Check.judge(2);
        for (int a = 0; a < 8; a++) {
            Check.equation(v, a, "+A+B+C+D+E+F+tGtH");
        }
        Check.due("all ways", v.cycle(0), 1002);
        Check.due("all ways, through G", v.cycle(6), 1002);
    }

    private static void testCycleErrors() {
        StreamJudge x = Check.judge(2, "A", "zCD");
        Check.due("cycle(8) of a system that is not plain", x.cycle(8), -1);
        Check.due("cycle(-1)", x.cycle(-1), -1);
        Check.due("cycle(0) of a system that is not plain", x.cycle(0), -2);
        Check.due("cycle(7) of a system that is not plain", x.cycle(7), -2);
        x.undefine(1);
        Check.due("cycle(0) of a plain one", x.cycle(0), 1000);
        Check.due("cycle(7) of a plain one", x.cycle(7), -9);
    }
}
