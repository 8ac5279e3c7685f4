/** Promises 1 to 4: a new object, write, wipe, fault; and the constants. */
public final class TextTest {
    private TextTest() {
    }

    public static void main(String[] args) {
        testConstants();
        testNewObject();
        testWriteAndWipe();
        testTextsOfTerms();
        testFaults();
        Check.finish();
    }

    private static void testConstants() {
        Check.due("BAD", StreamJudge.BAD, -1);
        Check.due("STATE", StreamJudge.STATE, -2);
        Check.due("FULL", StreamJudge.FULL, -3);
        Check.due("NONE", StreamJudge.NONE, -9);
    }

    private static void testNewObject() {
        StreamJudge x = new StreamJudge();
        int[] told = {2, 0, 0, 1, 0, 0, 0};
        for (int what = 0; what < told.length; what++) {
            Check.due("new: told(" + what + ")", x.told(what), told[what]);
        }
        for (int a = 0; a < 8; a++) {
            Check.due("new: stream(" + a + ", 0)", x.stream(a, 0), -9);
            Check.due("new: value(" + a + ", 0)", x.value(a, 0), -9);
            Check.due("new: listing(" + a + ", 0)", x.listing(a, 0), -9);
        }
        Check.due("new: fault()", x.fault(), 0);
        Check.due("new: undo()", x.undo(), -2);
        Check.due("new: back(0)", x.back(0), -2);
        Check.due("new: back(1)", x.back(1), -2);
        Check.due("new: changed(0, 0)", x.changed(0, 0), -2);
        Check.due("new: wipe()", x.wipe(), 0);
    }

    private static void testWriteAndWipe() {
        StreamJudge x = new StreamJudge();
        Check.due("write(31)", x.write(31), -1);
        Check.due("write(127)", x.write(127), -1);
        Check.due("write(-1)", x.write(-1), -1);
        Check.due("write(least int)", x.write(Integer.MIN_VALUE), -1);
        Check.due("write(65 + 256)", x.write(65 + 256), -1);
        Check.due("write(32)", x.write(32), 1);
        Check.due("write(126)", x.write(126), 2);
        for (int k = 3; k <= 80; k++) {
            Check.due("write(32), byte " + k, x.write(32), k);
        }
        Check.due("write(32) into a full text", x.write(32), -3);
        Check.due("write(31) into a full text", x.write(31), -1);
        Check.due("told(4) of a full text", x.told(4), 80);
        Check.due("wipe() of a full text", x.wipe(), 80);
        Check.due("wipe() of an empty text", x.wipe(), 0);
        Check.due("write(65) behind a wipe", x.write(65), 1);
        Check.due("fault() behind a wipe", x.fault(), -9);
    }

    private static void testTextsOfTerms() {
        StreamJudge x = new StreamJudge();
        String[] texts = {
            "A", "H", "0", "9", ":0A", " : 5  B ", "tA", "+AB", "* 1 2", "zAB", "eA", "oH", "   7   ",
            "+:1A:2B", "z+AB*CD", "ttttttA", ":3:4C", "t:9t:8e o z 1 2",
        };
        for (String text : texts) {
            Check.due("fault of '" + text + "'", Check.faultOf(x, text), -9);
        }
        Check.due("fault of 79 tails and a stream", Check.faultOf(x, "t".repeat(79) + "A"), -9);
        Check.due("fault of 80 tails", Check.faultOf(x, "t".repeat(80)), 80);
        Check.due("fault of 40 sums", Check.faultOf(x, "+".repeat(39) + "A".repeat(40)), -9);
    }

    private static void testFaults() {
        StreamJudge x = new StreamJudge();
        due(x, "", 0);
        due(x, "   ", 3);
        due(x, "I", 0);
        due(x, "@", 0);
        due(x, "a", 0);
        due(x, "/", 0);
        due(x, ";", 0);
        due(x, "  x", 2);
        due(x, "AB", 1);
        due(x, "A B", 2);
        due(x, "A  ", -9);
        due(x, "12", 1);
        due(x, ":", 1);
        due(x, ": ", 2);
        due(x, ":A", 1);
        due(x, ":: 1A", 1);
        due(x, ":1", 2);
        due(x, ":1 ", 3);
        due(x, ":12", -9);
        due(x, ":123", 3);
        due(x, "+", 1);
        due(x, "+A", 2);
        due(x, "+A  ", 4);
        due(x, "+AB", -9);
        due(x, "+ABC", 3);
        due(x, "+A)B", 2);
        due(x, "z:1A", 4);
        due(x, "t", 1);
        due(x, "et+A", 4);
        due(x, "+AB+", 3);
        due(x, "~", 0);
    }

    private static void due(StreamJudge x, String text, int want) {
        Check.due("fault of '" + text + "'", Check.faultOf(x, text), want);
        Check.due("define behind '" + text + "'", x.define(0) == -2 ? 1 : 0, want == -9 ? 0 : 1);
    }
}
