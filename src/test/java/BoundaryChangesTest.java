import java.util.ArrayList;
import java.util.List;
import java.util.function.Supplier;
import java.util.function.ToIntFunction;

/** The boundary cases of what the document says of changes: CHANGES, and promises 5 to 10. */
public final class BoundaryChangesTest {
    private BoundaryChangesTest() {
    }

    public static void main(String[] args) throws Exception {
        Boundaries.run(BoundaryChangesTest.class);
    }

    private static String tails(int count) {
        return "t".repeat(count);
    }

    /** A judge with three equations, four changes, an image, and a text that is a term. */
    private static StreamJudge busy() {
        StreamJudge x = Check.judge(5, ":1+1A", "t+AB", ":2zAC");
        x.keep(0);
        Check.text(x, ":3tzA4");
        return x;
    }

    /** A change adds one state, and undo takes it back, whatever was asked of values before and behind it. */
    private static void isAChange(String call, ToIntFunction<StreamJudge> change) {
        for (Boundaries.Look look : Boundaries.Look.values()) {
            StreamJudge x = busy();
            int changes = x.told(5);
            Check.due(call + " is no refusal", askAround(x, change) >= 0 ? 1 : 0, 1);
            Check.due("told(5) behind " + call, x.told(5), changes + 1);
            Check.due("undo() behind " + call, x.undo(), changes);
            Check.due(look + " behind " + call + " and undo()", look.at(x), look.at(busy()));
        }
    }

    private static int askAround(StreamJudge x, ToIntFunction<StreamJudge> change) {
        x.alike(0);
        int answer = change.applyAsInt(x);
        x.alike(0);
        return answer;
    }

    private static void refused(String call, Supplier<StreamJudge> maker, ToIntFunction<StreamJudge> change, int want) {
        Boundaries.refusedChangesNothing(call, maker, change, want);
    }

    // ---- CHANGES

    @Says(in = "CHANGES", words = "A history of at most 8 states is kept")
    static void historyHoldsEightStates() {
        StreamJudge x = new StreamJudge();
        for (int k = 1; k <= 20; k++) {
            x.setModulus(2 + k % 9);
            Check.due("told(5) behind " + k + " changes", x.told(5), Math.min(k, 8));
        }
        for (int left = 7; left >= 0; left--) {
            Check.due("undo()", x.undo(), left);
        }
        Check.due("a ninth undo()", x.undo(), -2);
    }

    @Says(in = "CHANGES", words = "a change that returns no error code records M and all equations before it")
    static void changesRecordMAndAllEquations() {
        StreamJudge x = new StreamJudge();
        for (int a = 0; a < 8; a++) {
            Check.equation(x, a, ":" + a + (char) ('A' + a));
        }
        x.setModulus(9);
        x.keep(1);
        for (int a = 0; a < 8; a++) {
            Check.equation(x, a, "" + a);
        }
        for (int left = 7; left >= 0; left--) {
            Check.due("undo()", x.undo(), left);
            Check.due("M", x.told(0), 9);
            for (int a = 0; a < 8; a++) {
                String then = a >= left ? ":" + a + (char) ('A' + a) : "" + a;
                Check.due("equation " + a + " behind undo()", Check.listingOf(x, a), then);
            }
        }
    }

    @Says(in = "CHANGES", words = "a change that returns no error code records M and all equations before it")
    static void changesThatAlterNothingAreRecorded() {
        StreamJudge x = Check.judge(3, "A", ":1B");
        int changes = x.told(5);
        Check.due("setModulus to the same M", x.setModulus(3), 3);
        Check.due("told(5)", x.told(5), changes + 1);
        Check.due("simplify of what is simple", x.simplify(0), 0);
        Check.due("told(5)", x.told(5), changes + 2);
        Check.due("insert without an occurrence", x.insert(1, 0), 2);
        Check.due("told(5)", x.told(5), changes + 3);
        Check.due("define by the same term", x.define(1), 2);
        Check.due("told(5)", x.told(5), changes + 4);
    }

    @Says(in = "CHANGES", words = "if there are more than 8, the oldest one is dropped")
    static void theOldestStateIsDropped() {
        for (int changes = 1; changes <= 26; changes++) {
            StreamJudge x = new StreamJudge();
            for (int k = 1; k <= changes; k++) {
                Check.equation(x, 0, tails(k) + "A");
            }
            int steps = Math.min(changes, 8);
            for (int k = 1; k <= steps; k++) {
                Check.due("undo() " + k + " of " + changes, x.undo(), steps - k);
                int size = changes - k + 1;
                Check.due("size behind it", x.stream(0, 0), size == 1 ? -9 : size);
            }
            Check.due("undo() beyond the oldest of " + changes, x.undo(), -2);
        }
    }

    @Says(in = "CHANGES", words = "undo() removes the latest state and restores it")
    static void undoTakesTheLatestState() {
        // Changes and undos in turns, so that the history is entered and left at every place.
        StreamJudge x = new StreamJudge();
        List<Integer> history = new ArrayList<>();
        int modulus = 2;
        for (int k = 0; k < 120; k++) {
            boolean undo = k % 11 > 6 || k % 23 > 16;
            if (!undo) {
                history.add(modulus);
                if (history.size() > 8) {
                    history.remove(0);
                }
                int next = 2 + k * 7 % 9;
                Check.due("setModulus, call " + k, x.setModulus(next), modulus);
                modulus = next;
            } else if (history.isEmpty()) {
                Check.due("undo() of nothing, call " + k, x.undo(), -2);
            } else {
                modulus = history.remove(history.size() - 1);
                Check.due("undo(), call " + k, x.undo(), history.size());
            }
            Check.due("M, call " + k, x.told(0), modulus);
            Check.due("told(5), call " + k, x.told(5), history.size());
        }
    }

    @Says(in = "CHANGES", words = "The text and the images do not belong to a state")
    static void textAndImagesStayBehindUndo() {
        StreamJudge x = Check.judge(7, ":1A");
        Check.equation(x, 0, ":2A");
        x.keep(0);
        Check.text(x, "z12");
        x.undo();
        Check.due("the text behind undo()", x.told(4), 3);
        Check.due("the text's term behind undo()", x.define(1), 3);
        Check.due("image 0 behind undo()", x.changed(0, 0), 0);
        x.undo();
        x.undo();
        x.undo();
        Check.due("told(1) behind all undos", x.told(1), 0);
        Check.due("back(0) behind all undos", x.back(0), 1);
        Check.due("what image 0 kept", Check.listingOf(x, 0), ":2A");
        Check.due("image 1 kept nothing", x.back(1), -2);
        x.undo();
        Check.due("undo() of back, then the image again", x.back(0), 1);
    }

    @Says(in = "CHANGES", words = "keep() is no change")
    static void keepIsNoChange() {
        StreamJudge x = new StreamJudge();
        Check.due("keep(0)", x.keep(0), 0);
        Check.due("told(5) behind keep", x.told(5), 0);
        Check.due("undo() behind keep", x.undo(), -2);
        for (int k = 0; k < 9; k++) {
            Check.equation(x, 0, tails(k) + "A");
        }
        x.keep(0);
        x.keep(1);
        Check.due("told(5) behind keep", x.told(5), 8);
        Check.due("undo() behind keep", x.undo(), 7);
        Check.due("size", x.stream(0, 0), 8);
        Check.due("what was kept stays", x.changed(0, 0), -9);
    }

    // ---- promise 5

    @Says(in = "Promise 5", words = "Gives a stream the term of the text as its equation")
    static void defineGivesAnEquation() {
        StreamJudge x = busy();
        Check.due("value before define", x.value(0, 0), 1);
        Check.due("define(0), which has one", x.define(0), 5);
        Check.due("listing", Check.listingOf(x, 0), ":3tzA4");
        Check.due("value behind define", x.value(0, 0), 3);
        Check.due("define(7), which has none", x.define(7), 5);
        Check.due("listing", Check.listingOf(x, 7), ":3tzA4");
        Check.due("told(1)", x.told(1), 4);
    }

    @Says(in = "Promise 5", words = "the text stays")
    static void defineLeavesTheText() {
        StreamJudge x = busy();
        x.define(0);
        Check.due("bytes behind define", x.told(4), 6);
        Check.due("fault behind define", x.fault(), -9);
        for (int a = 0; a < 8; a++) {
            Check.due("define(" + a + ") by the same text", x.define(a), 5);
        }
        Check.due("what is written behind it", x.write('B'), 7);
        Check.due("the equation is no part of the text", Check.listingOf(x, 0), ":3tzA4");
    }

    @Says(in = "Promise 5", words = "This is a change")
    static void defineIsAChange() {
        isAChange("define(0)", x -> x.define(0));
        isAChange("define(7)", x -> x.define(7));
    }

    @Says(in = "Promise 5", words = {"`a`: the stream, 0 to 7", "BAD if there is no such stream"})
    static void defineRefusesOtherStreams() {
        for (int a : Boundaries.NO_STREAMS) {
            refused("define(" + a + ")", BoundaryChangesTest::busy, x -> x.define(a), -1);
        }
        StreamJudge x = busy();
        Check.due("define(0)", x.define(0), 5);
        Check.due("define(7)", x.define(7), 5);
    }

    @Says(in = "Promise 5", words = "Returns the size of the term")
    static void defineTellsTheSize() {
        StreamJudge x = new StreamJudge();
        Check.due("the least size", Check.equation(x, 0, "7"), 1);
        Check.due("the greatest size", Check.equation(x, 0, tails(79) + "7"), 80);
        Check.due("a front's digit is not counted", Check.equation(x, 0, ":7:8:9A"), 4);
    }

    @Says(in = "Promise 5", words = "STATE if the text has a fault")
    static void defineRefusesAFault() {
        for (String text : new String[] {"", " ", "x", "+A", ":", ":1", ":A", "AB", "A1", tails(80)}) {
            refused("define(0) by '" + text + "'", () -> {
                StreamJudge x = busy();
                Check.text(x, text);
                return x;
            }, x -> x.define(0), -2);
        }
        Check.due("define(3) of a new judge", new StreamJudge().define(3), -2);
    }

    // ---- promise 6

    @Says(in = "Promise 6", words = "Removes the equation of a stream")
    static void undefineRemoves() {
        StreamJudge x = busy();
        x.value(1, 0);
        Check.due("undefine(0)", x.undefine(0), 4);
        Check.due("told(1)", x.told(1), 2);
        Check.due("stream(0, 0)", x.stream(0, 0), -9);
        Check.due("listing(0, 0)", x.listing(0, 0), -9);
        Check.due("uses(0)", x.uses(0), -9);
        Check.due("value(0, 0)", x.value(0, 0), -9);
        Check.due("uses(1), the others stay", x.uses(1), 3);
        for (int a = 1; a < 3; a++) {
            x.undefine(a);
        }
        Check.due("told(1), nothing is left", x.told(1), 0);
        Check.due("told(2), nothing is left", x.told(2), 0);
        Check.due("the text stays", x.told(4), 6);
    }

    @Says(in = "Promise 6", words = "This is a change")
    static void undefineIsAChange() {
        isAChange("undefine(0)", x -> x.undefine(0));
        isAChange("undefine(2)", x -> x.undefine(2));
    }

    @Says(in = "Promise 6", words = "Returns the size of its term")
    static void undefineTellsTheSize() {
        StreamJudge x = Check.judge(2, "1", tails(79) + "B");
        x.insert(1, 2);
        Check.equation(x, 2, tails(41) + "B");
        Check.due("undefine of the least", x.undefine(0), 1);
        Check.due("insert up to the greatest", Check.equation(x, 1, tails(78) + "C") + x.insert(1, 2), 79 + 120);
        Check.due("undefine of the greatest", x.undefine(1), 120);
        Check.equation(x, 7, ":5A");
        Check.due("undefine(7)", x.undefine(7), 2);
    }

    @Says(in = "Promise 6", words = {"BAD if there is no such stream", "`a`: the stream"})
    static void undefineRefusesOtherStreams() {
        for (int a : Boundaries.NO_STREAMS) {
            refused("undefine(" + a + ")", BoundaryChangesTest::busy, x -> x.undefine(a), -1);
        }
    }

    @Says(in = "Promise 6", words = "STATE if it has no equation")
    static void undefineRefusesWithoutAnEquation() {
        for (int a = 3; a < 8; a++) {
            int stream = a;
            refused("undefine(" + a + ")", BoundaryChangesTest::busy, x -> x.undefine(stream), -2);
        }
        StreamJudge x = busy();
        x.undefine(0);
        Check.due("undefine(0) twice", x.undefine(0), -2);
        x.undo();
        Check.due("undefine(0) behind undo()", x.undefine(0), 4);
    }

    // ---- promise 7

    @Says(in = "Promise 7", words = {"Sets the modulus", "`m`: the new modulus, 2 to 10"})
    static void setModulusSets() {
        for (int m = 2; m <= 10; m++) {
            StreamJudge x = Check.judge(7, "9", ":0+1B");
            x.value(0, 0);
            x.stream(1, 2);
            Check.due("setModulus(" + m + ")", x.setModulus(m), 7);
            Check.due("told(0)", x.told(0), m);
            Check.due("9 modulo " + m, x.value(0, 399), 9 % m);
            Check.due("different values modulo " + m, x.stream(1, 2), m);
            Check.due("digits stay as written", Check.listingOf(x, 0), "9");
        }
    }

    @Says(in = "Promise 7", words = "This is a change")
    static void setModulusIsAChange() {
        isAChange("setModulus(2)", x -> x.setModulus(2));
        isAChange("setModulus(5), the same one", x -> x.setModulus(5));
        isAChange("setModulus(10)", x -> x.setModulus(10));
    }

    @Says(in = "Promise 7", words = "Returns the previous one")
    static void setModulusTellsThePreviousOne() {
        StreamJudge x = new StreamJudge();
        Check.due("setModulus(10)", x.setModulus(10), 2);
        Check.due("setModulus(2)", x.setModulus(2), 10);
        Check.due("setModulus(2) again", x.setModulus(2), 2);
        Check.due("setModulus(9)", x.setModulus(9), 2);
        x.undo();
        Check.due("setModulus(3) behind undo()", x.setModulus(3), 2);
    }

    @Says(in = "Promise 7", words = "BAD if m is out of range")
    static void setModulusRefusesTheRest() {
        for (int m : new int[] {1, 11, 0, -1, -2, 12, 258, Integer.MIN_VALUE, Integer.MAX_VALUE}) {
            refused("setModulus(" + m + ")", BoundaryChangesTest::busy, x -> x.setModulus(m), -1);
        }
    }

    // ---- promise 8

    private static void inserts(String outer, String inner, String want) {
        StreamJudge x = Check.judge(10, outer, inner);
        x.value(0, 0);
        int size = x.insert(0, 1);
        Check.due("insert of " + inner + " into " + outer, Check.listingOf(x, 0), want);
        Check.due("size of " + want, size, x.stream(0, 0));
        Check.due("what is inserted stays", Check.listingOf(x, 1), inner);
    }

    @Says(in = "Promise 8", words = {"Inserts an equation into another one: each occurrence of the stream b in the",
        "equation of the stream a, as it is now, is replaced by the term of b", "`a`: the stream whose equation changes"})
    static void insertReplacesEachOccurrence() {
        inserts("B", "7", "7");
        inserts("B", "B", "B");
        inserts("A", "7", "A");
        inserts("7", ":1B", "7");
        inserts("+BB", "tA", "+tAtA");
        inserts("B", ":1+BA", ":1+BA");
        inserts("z:3BeB", ":4B", "z:3:4Be:4B");
        inserts("+".repeat(39) + "B".repeat(40), "3", "+".repeat(39) + "3".repeat(40));
        inserts("+".repeat(39) + "B".repeat(40), "tC", "+".repeat(39) + "tC".repeat(40));
        StreamJudge x = Check.judge(10, "", "", "", "", "", "", ":1H", ":2G");
        Check.due("insert(7, 6)", x.insert(7, 6), 3);
        Check.due("listing(7)", Check.listingOf(x, 7), ":2:1H");
        Check.due("insert(6, 7)", x.insert(6, 7), 4);
        Check.due("listing(6)", Check.listingOf(x, 6), ":1:2:1H");
    }

    @Says(in = "Promise 8", words = "`b`: the stream whose term is inserted, possibly a itself")
    static void insertIntoItself() {
        StreamJudge x = Check.judge(10, "A", ":1+BB", "5");
        Check.due("insert(0, 0)", x.insert(0, 0), 1);
        Check.due("listing(0)", Check.listingOf(x, 0), "A");
        Check.due("insert(1, 1)", x.insert(1, 1), 10);
        Check.due("listing(1)", Check.listingOf(x, 1), ":1+:1+BB:1+BB");
        Check.due("insert(2, 2)", x.insert(2, 2), 1);
        Check.due("listing(2)", Check.listingOf(x, 2), "5");
    }

    @Says(in = "Promise 8", words = "This is a change")
    static void insertIsAChange() {
        isAChange("insert(1, 0)", x -> x.insert(1, 0));
        isAChange("insert(0, 0)", x -> x.insert(0, 0));
        isAChange("insert(0, 1), without an occurrence", x -> x.insert(0, 1));
    }

    @Says(in = "Promise 8", words = "Returns the size of the new term of a")
    static void insertTellsTheSize() {
        StreamJudge x = Check.judge(10, "+AB", ":1B", "C");
        Check.due("insert(2, 2)", x.insert(2, 2), 1);
        Check.due("insert(0, 1)", x.insert(0, 1), 4);
        Check.due("insert(0, 0)", x.insert(0, 0), 7);
        Check.due("insert(0, 2), without an occurrence", x.insert(0, 2), 7);
    }

    @Says(in = "Promise 8", words = "BAD if there is no such stream")
    static void insertRefusesOtherStreams() {
        for (int a : Boundaries.NO_STREAMS) {
            refused("insert(" + a + ", 0)", BoundaryChangesTest::busy, x -> x.insert(a, 0), -1);
            refused("insert(0, " + a + ")", BoundaryChangesTest::busy, x -> x.insert(0, a), -1);
            refused("insert(" + a + ", " + a + ")", BoundaryChangesTest::busy, x -> x.insert(a, a), -1);
            refused("insert(3, " + a + ")", BoundaryChangesTest::busy, x -> x.insert(3, a), -1);
        }
    }

    @Says(in = "Promise 8", words = "STATE if a or b has no equation")
    static void insertRefusesWithoutAnEquation() {
        refused("insert(0, 3)", BoundaryChangesTest::busy, x -> x.insert(0, 3), -2);
        refused("insert(3, 0)", BoundaryChangesTest::busy, x -> x.insert(3, 0), -2);
        refused("insert(3, 3)", BoundaryChangesTest::busy, x -> x.insert(3, 3), -2);
        refused("insert(7, 6)", BoundaryChangesTest::busy, x -> x.insert(7, 6), -2);
        // Also without an occurrence of b, and where b occurs but has none.
        Check.due("insert(0, 1), B occurs", Check.judge(2, ":1B").insert(0, 1), -2);
        Check.due("insert(0, 1), B does not occur", Check.judge(2, ":1A").insert(0, 1), -2);
    }

    @Says(in = "Promise 8", words = "FULL if the size would be greater than 120")
    static void insertRefusesMoreThan120() {
        for (int inner = 39; inner <= 43; inner++) {
            int tails = inner - 1;
            int size = 79 + inner;
            Supplier<StreamJudge> maker = () -> Check.judge(2, tails(79) + "B", tails(tails) + "A");
            if (size > 120) {
                refused("insert to the size " + size, maker, x -> x.insert(0, 1), -3);
            } else {
                Check.due("insert to the size " + size, maker.get().insert(0, 1), size);
            }
        }
        // With many occurrences: 60 + 2 * 30 and 61 + 2 * 30.
        String many = "+".repeat(29) + "B".repeat(30);
        Check.due("insert of 30 to the size 120", Check.judge(2, "t" + many, "ttA").insert(0, 1), 120);
        refused("insert of 30 to the size 121", () -> Check.judge(2, "tt" + many, "ttA"), x -> x.insert(0, 1), -3);
        refused("insert of 40 of 80", () -> Check.judge(2, "+".repeat(39) + "B".repeat(40), tails(79) + "A"),
            x -> x.insert(0, 1), -3);
        // At 120 what does not grow may still be inserted.
        StreamJudge x = Check.judge(2, tails(79) + "B", tails(40) + "C", "D", "tA");
        Check.due("insert to the size 120", x.insert(0, 1), 120);
        Check.due("insert of a size of 1 at 120", x.insert(0, 2), 120);
        Check.due("insert without an occurrence at 120", x.insert(0, 1), 120);
        Check.due("insert of a size of 2 at 120", x.insert(0, 3), -3);
        Check.due("insert into itself at 120, without an occurrence", x.insert(0, 0), 120);
        Check.due("size", x.stream(0, 0), 120);
        StreamJudge y = Check.judge(2, tails(59) + "A", tails(60) + "B");
        Check.due("59 tails into themselves", y.insert(0, 0), 119);
        Check.due("118 tails into themselves", y.insert(0, 0), -3);
        Check.due("60 tails into themselves", y.insert(1, 1), -3);
    }

    // ---- promise 9

    private static void simplifies(String from, String to, int applied) {
        StreamJudge x = Check.judge(2, from);
        x.value(0, 0);
        Check.due("simplify of " + from, x.simplify(0), applied);
        Check.due("what becomes of " + from, Check.listingOf(x, 0), to);
        Check.due("stream(0, 0) behind it", x.stream(0, 0), to.replaceAll(":.", ":").length());
        Check.due("simplify of " + to, x.simplify(0), 0);
        Check.due("what becomes of " + to, Check.listingOf(x, 0), to);
    }

    @Says(in = "Promise 9", words = {"Simplifies the equation of a stream: as long as one of the following rules can be",
        "applied to some term in it, it is applied"})
    static void simplifyGoesOnToTheEnd() {
        simplifies("A", "A", 0);
        simplifies("5", "5", 0);
        simplifies(tails(79) + "A", tails(79) + "A", 0);
        simplifies(tails(79) + "5", "5", 79);
        simplifies("eo".repeat(39) + "5", "5", 78);
        simplifies(tails(26) + ":1".repeat(26) + "A", "A", 26);
        simplifies(tails(25) + ":1".repeat(26) + "A", ":1A", 25);
        simplifies(tails(27) + ":1".repeat(26) + "A", "tA", 26);
        // What one rule leaves, another one goes on with; also within all operands.
        simplifies("te:1tzCB", "tC", 5);
        simplifies("+t1+t2t3", "+1+23", 3);
        simplifies("ze:1t:2Ao:1t:2A", ":1A", 2);
        simplifies(":1:2:3t:4A", ":1:2:3A", 1);
    }

    @Says(in = "Promise 9", words = "to the first such term, in the order in which terms begin in the text")
    static void simplifyTakesTheFirstTerm() {
        // An outer term begins before those in it: what it drops is not simplified first.
        simplifies("ezAt+BC", "A", 1);
        simplifies("ozt+BCA", "A", 1);
        simplifies("zetzABotzAB", "zBtA", 2);
        simplifies("ze1o1", "1", 1);
        simplifies("zet1ot1", "1", 2);
        simplifies("t:1t:2A", "A", 2);
        simplifies("tez1A", "1", 5);
        // A left operand goes before a right one: the room is there only if the one that shrinks is the left one.
        String grows = tails(20) + "eeA";
        String shrinks = "ez1" + tails(38) + "B";
        simplifies("+" + shrinks + grows, "+1ee" + tails(80) + "A", 61);
        StreamJudge x = Check.judge(2, "+" + grows + shrinks);
        Check.due("the one that grows first", x.simplify(0), -3);
    }

    @Says(in = "Promise 9", words = "t : d T becomes T")
    static void tailOfAFront() {
        simplifies("t:0A", "A", 1);
        simplifies("t:95", "5", 1);
        simplifies("t:1:2A", ":2A", 1);
        simplifies("t:1+A:2B", "+A:2B", 1);
        simplifies(":1tA", ":1tA", 0);
        simplifies("t:1tA", "tA", 1);
    }

    @Says(in = "Promise 9", words = "t d (of a constant) becomes d")
    static void tailOfAConstant() {
        for (int d = 0; d <= 9; d++) {
            simplifies("t" + d, "" + d, 1);
        }
        simplifies("tA", "tA", 0);
        simplifies("tH", "tH", 0);
        simplifies("+t1t2", "+12", 2);
    }

    @Says(in = "Promise 9", words = {"t + T U becomes + t T t U", "t * T U becomes * t T t U"})
    static void tailOfASumOrProduct() {
        simplifies("t+AB", "+tAtB", 1);
        simplifies("t*AB", "*tAtB", 1);
        simplifies("t+*ABC", "+*tAtBtC", 2);
        simplifies("t*A+BC", "*tA+tBtC", 2);
        simplifies("+tAtB", "+tAtB", 0);
        simplifies("tt+AB", "+ttAttB", 2);
    }

    @Says(in = "Promise 9", words = "t z T U becomes z U t T")
    static void tailOfAZip() {
        simplifies("tzAB", "zBtA", 1);
        simplifies("ttzAB", "ztAtB", 2);
        simplifies("tz+ABC", "zC+tAtB", 2);
        simplifies("tzC+AB", "z+ABtC", 1);
        simplifies("tz:1A:2B", "z:2BA", 2);
    }

    @Says(in = "Promise 9", words = {"e z T U becomes T", "o z T U becomes U"})
    static void evensAndOddsOfAZip() {
        simplifies("ezAB", "A", 1);
        simplifies("ozAB", "B", 1);
        simplifies("ez+AB*CD", "+AB", 1);
        simplifies("oz+AB*CD", "*CD", 1);
        simplifies("eezzABC", "A", 2);
        simplifies("oozAzBC", "C", 2);
        simplifies("+ezABC", "+AC", 1);
        simplifies("+CozAB", "+CB", 1);
        simplifies("e+AB", "e+AB", 0);
        simplifies("e:1A", "e:1A", 0);
        simplifies("eoA", "eoA", 0);
    }

    @Says(in = "Promise 9", words = {"t e T becomes e t t T", "t o T becomes o t t T"})
    static void tailOfEvensOrOdds() {
        simplifies("teA", "ettA", 1);
        simplifies("toA", "ottA", 1);
        simplifies("tteA", "ettttA", 2);
        simplifies("teoA", "eottttA", 3);
        simplifies("te:1A", "etA", 2);
        simplifies("to+AB", "o+ttAttB", 3);
        simplifies("etA", "etA", 0);
    }

    @Says(in = "Promise 9", words = "e d and o d (of a constant) become d")
    static void evensAndOddsOfAConstant() {
        for (int d = 0; d <= 9; d++) {
            simplifies("e" + d, "" + d, 1);
            simplifies("o" + d, "" + d, 1);
        }
        simplifies("+e1o2", "+12", 2);
        simplifies("eA", "eA", 0);
        simplifies("oH", "oH", 0);
    }

    @Says(in = "Promise 9", words = "z e T o T, with the same T twice (written alike), becomes T")
    static void zipOfEvensAndOdds() {
        simplifies("zeAoA", "A", 1);
        simplifies("ze+A:1Bo+A:1B", "+A:1B", 1);
        simplifies("zezeAoAozeAoA", "A", 2);
        simplifies("+zeAoAB", "+AB", 1);
        simplifies("+BzeAoA", "+BA", 1);
        simplifies("zoAeA", "zoAeA", 0);
        simplifies("zeAeA", "zeAeA", 0);
        simplifies("zoAoA", "zoAoA", 0);
        simplifies("zeAoB", "zeAoB", 0);
        simplifies("zAoA", "zAoA", 0);
        simplifies("zeAA", "zeAA", 0);
        simplifies("zetAoA", "zetAoA", 0);
        simplifies("zeAotA", "zeAotA", 0);
        simplifies("ze+ABo+AC", "ze+ABo+AC", 0);
        simplifies("ze+ABo*AB", "ze+ABo*AB", 0);
        // 1 and 3 are the same modulo 2, but not written alike.
        simplifies("ze:1Ao:3A", "ze:1Ao:3A", 0);
        simplifies("z+e1Ao+3A", "z+1Ao+3A", 1);
        StreamJudge x = Check.judge(2, "z e : 1 A o:1A");
        Check.due("blanks are no part of an equation", x.simplify(0), 1);
    }

    @Says(in = "Promise 9", words = "This is a change")
    static void simplifyIsAChange() {
        isAChange("simplify(1)", x -> x.simplify(1));
        isAChange("simplify(0), without an application", x -> x.simplify(0));
    }

    @Says(in = "Promise 9", words = "Returns how often a rule was applied")
    static void simplifyCounts() {
        Check.due("simplify of A", Check.judge(2, "A").simplify(0), 0);
        Check.due("simplify of tA", Check.judge(2, "tA").simplify(0), 0);
        Check.due("simplify of t5", Check.judge(2, "t5").simplify(0), 1);
        Check.due("simplify of 39 sums", Check.judge(2, "t" + "+".repeat(39) + "5".repeat(40)).simplify(0), 79);
        // 29 tails through an e, 58 through the next one.
        Check.due("simplify of 29 tails", Check.judge(2, tails(29) + "eeA").simplify(0), 87);
    }

    @Says(in = "Promise 9", words = {"BAD if there is no such stream", "`a`: the stream"})
    static void simplifyRefusesOtherStreams() {
        for (int a : Boundaries.NO_STREAMS) {
            refused("simplify(" + a + ")", BoundaryChangesTest::busy, x -> x.simplify(a), -1);
        }
        StreamJudge x = new StreamJudge();
        Check.equation(x, 7, "t5");
        Check.due("simplify(7)", x.simplify(7), 1);
    }

    @Says(in = "Promise 9", words = "STATE if it has no equation")
    static void simplifyRefusesWithoutAnEquation() {
        for (int a = 3; a < 8; a++) {
            int stream = a;
            refused("simplify(" + a + ")", BoundaryChangesTest::busy, x -> x.simplify(stream), -2);
        }
        Check.due("simplify(0) of a new judge", new StreamJudge().simplify(0), -2);
    }

    /** A judge whose equation of A begins as told and then goes on with tails and C, up to a size. */
    private static StreamJudge ofSize(int size, String begin, int beginSize) {
        int rest = size - beginSize;
        StreamJudge x = Check.judge(2, begin + tails(40) + "B", tails(rest - 41) + "C");
        Check.due("insert up to " + size, x.insert(0, 1), size);
        return x;
    }

    @Says(in = "Promise 9", words = {"FULL if the size of the equation would be greater than 120 behind one of",
        "these applications"})
    static void simplifyRefusesMoreThan120() {
        for (String begin : new String[] {"te", "to"}) {
            Check.due("from 119 to 120 by " + begin, ofSize(119, begin, 2).simplify(0), 1);
            refused("from 120 to 121 by " + begin, () -> ofSize(120, begin, 2), x -> x.simplify(0), -3);
        }
        for (String begin : new String[] {"t+A", "t*A"}) {
            Check.due("from 119 to 120 by " + begin, ofSize(119, begin, 3).simplify(0), 1);
            refused("from 120 to 121 by " + begin, () -> ofSize(120, begin, 3), x -> x.simplify(0), -3);
        }
        // What does not grow is no matter at 120.
        Check.due("a zip at 120", ofSize(120, "tzA", 3).simplify(0), 1);
        Check.due("a front at 120", ofSize(120, "t:1", 2).simplify(0), 1);
        Check.due("evens of a zip at 120", ofSize(120, "ez1", 3).simplify(0), 1);
        Check.due("nothing to do at 120", ofSize(120, "t", 1).simplify(0), 0);
        // Behind 87 applications the size is 120, or would be 121.
        Check.due("87 applications up to 120", Check.judge(2, ":1" + tails(29) + "eeA").simplify(0), 87);
        refused("87 applications up to 121", () -> Check.judge(2, ":1:1" + tails(29) + "eeA"), x -> x.simplify(0), -3);
        // In between counts too: at the end there would be a single constant.
        refused("too great only on the way", () -> Check.judge(2, tails(35) + "ee1"), x -> x.simplify(0), -3);
    }

    // ---- promise 10

    @Says(in = "Promise 10", words = "Undoes a change, as described above")
    static void undoUndoesEachKindOfChange() {
        StreamJudge x = Check.judge(3, "t:1B", ":2A");
        x.keep(0);
        Check.equation(x, 2, "7");
        x.undefine(1);
        x.setModulus(4);
        x.simplify(0);
        x.insert(0, 2);
        x.back(0);
        Check.due("M", x.told(0), 3);
        String[] first = {"B", "B", "t:1B", "t:1B", "t:1B", "t:1B"};
        String[] second = {"", "", "", "", ":2A", ":2A"};
        String[] third = {"7", "7", "7", "7", "7", ""};
        int[] modulus = {4, 4, 4, 3, 3, 3};
        for (int k = 0; k < 6; k++) {
            Check.due("undo()", x.undo(), 7 - k);
            Check.due("M", x.told(0), modulus[k]);
            Check.due("A", Check.listingOf(x, 0), first[k]);
            Check.due("B", Check.listingOf(x, 1), second[k]);
            Check.due("C", Check.listingOf(x, 2), third[k]);
        }
    }

    @Says(in = "Promise 10", words = "Returns how many changes can still be undone")
    static void undoTellsHowManyAreLeft() {
        StreamJudge x = new StreamJudge();
        x.setModulus(3);
        Check.due("undo() of the only change", x.undo(), 0);
        for (int k = 0; k < 9; k++) {
            x.setModulus(3);
        }
        Check.due("undo() of the ninth of nine changes", x.undo(), 7);
        Check.due("undo() of the eighth", x.undo(), 6);
        Check.due("told(5)", x.told(5), 6);
        x.setModulus(4);
        Check.due("undo() is no change itself", x.told(5), 7);
    }

    @Says(in = "Promise 10", words = "STATE if there is none")
    static void undoRefusesWithoutAChange() {
        Supplier<StreamJudge> maker = () -> {
            StreamJudge x = Check.judge(5, ":1A", "B");
            x.keep(0);
            x.undo();
            x.undo();
            x.undo();
            return x;
        };
        refused("undo() of a new judge", StreamJudge::new, StreamJudge::undo, -2);
        refused("undo() behind the last one", maker, StreamJudge::undo, -2);
        StreamJudge x = new StreamJudge();
        x.define(0);
        x.setModulus(11);
        x.insert(0, 0);
        Check.due("refused calls cannot be undone", x.undo(), -2);
    }
}
