import java.util.function.Supplier;
import java.util.function.ToIntFunction;

/** The boundary cases of what the document says of all calls: the 512 of them, CONVENTIONS, and the constants. */
public final class BoundaryConventionsTest {
    private BoundaryConventionsTest() {
    }

    public static void main(String[] args) throws Exception {
        Boundaries.run(BoundaryConventionsTest.class);
    }

    /** A judge with a full history, an image, equations of all sorts, and a text that is a term; its values are found. */
    private static StreamJudge full() {
        StreamJudge x = Check.judge(5, "ttt".repeat(5) + "eeeA", ":1+1B", "+BtC", "z:1B:2C", "t".repeat(79) + "E");
        x.keep(0);
        for (int m = 3; m <= 7; m++) {
            x.setModulus(m);
        }
        Check.text(x, ":1z:2B3");
        x.told(6);
        return x;
    }

    private static StreamJudge plain() {
        StreamJudge x = Check.judge(5, ":1+1A", "+BtA", "t".repeat(79) + "C");
        x.keep(1);
        return x;
    }

    private static StreamJudge withText(Supplier<StreamJudge> maker, String text) {
        StreamJudge x = maker.get();
        Check.text(x, text);
        return x;
    }

    private static void refused(String call, Supplier<StreamJudge> maker, ToIntFunction<StreamJudge> asked, int want) {
        Boundaries.refusedChangesNothing(call, maker, asked, want);
    }

    @Says(in = "What it is", words = "An object is used for at most 512 calls after it has been made")
    static void allFiveHundredAndTwelveCallsAnswer() {
        // Each kind of call as the 512th one.
        for (int kind = 0; kind < 6; kind++) {
            StreamJudge x = new StreamJudge();
            int calls = 0;
            for (char code : ":1+1A".toCharArray()) {
                x.write(code);
                calls++;
            }
            x.define(0);
            calls++;
            for (; calls < 511; calls++) {
                int m = 2 + calls % 9;
                x.setModulus(m);
            }
            switch (kind) {
                case 0: Check.due("call 512, told(0)", x.told(0), 2 + 510 % 9); break;
                case 1: Check.due("call 512, undo()", x.undo(), 7); break;
                case 2: Check.due("call 512, write", x.write('B'), 6); break;
                case 3: Check.due("call 512, value", x.value(0, 399), 400 % (2 + 510 % 9)); break;
                case 4: Check.due("call 512, define", x.define(7), 4); break;
                default: Check.due("call 512, keep", x.keep(1), 1); break;
            }
        }
    }

    @Says(in = "the constants", words = {"BAD = -1, STATE = -2, FULL = -3, NONE = -9",
        "The error codes, and the value for \"there is none\""})
    static void constants() {
        Check.due("BAD", StreamJudge.BAD, -1);
        Check.due("STATE", StreamJudge.STATE, -2);
        Check.due("FULL", StreamJudge.FULL, -3);
        Check.due("NONE", StreamJudge.NONE, -9);
    }

    @Says(in = "CONVENTIONS",
        words = "BAD (-1), an argument is out of its range or names something that does not exist")
    static void badIsForArguments() {
        StreamJudge x = full();
        int[] none = {-1, 8};
        Boundaries.eachIs("define", none, x::define, -1);
        Boundaries.eachIs("undefine", none, x::undefine, -1);
        Boundaries.eachIs("simplify", none, x::simplify, -1);
        Boundaries.eachIs("uses", none, x::uses, -1);
        Boundaries.eachIs("cycle", none, x::cycle, -1);
        Boundaries.eachIs("alike", none, x::alike, -1);
        Boundaries.eachIs("insert(.., 1)", none, a -> x.insert(a, 1), -1);
        Boundaries.eachIs("insert(1, ..)", none, b -> x.insert(1, b), -1);
        Boundaries.eachIs("parting(.., 1)", none, a -> x.parting(a, 1), -1);
        Boundaries.eachIs("parting(1, ..)", none, b -> x.parting(1, b), -1);
        Boundaries.eachIs("listing(.., 0)", none, a -> x.listing(a, 0), -1);
        Boundaries.eachIs("value(.., 0)", none, a -> x.value(a, 0), -1);
        Boundaries.eachIs("stream(.., 0)", none, a -> x.stream(a, 0), -1);
        Boundaries.eachIs("needs(.., 0, 0)", none, a -> x.needs(a, 0, 0), -1);
        Boundaries.eachIs("changed(.., 0)", none, a -> x.changed(a, 0), -1);
        Boundaries.eachIs("write", new int[] {31, 127}, x::write, -1);
        Boundaries.eachIs("setModulus", new int[] {1, 11}, x::setModulus, -1);
        Boundaries.eachIs("told", new int[] {-1, 7}, x::told, -1);
        Boundaries.eachIs("listing(1, ..)", new int[] {-1}, k -> x.listing(1, k), -1);
        Boundaries.eachIs("value(1, ..)", new int[] {-1, 400}, i -> x.value(1, i), -1);
        Boundaries.eachIs("stream(1, ..)", new int[] {-1, 6}, what -> x.stream(1, what), -1);
        Boundaries.eachIs("needs(1, .., 0)", new int[] {-1, 400}, i -> x.needs(1, i, 0), -1);
        Boundaries.eachIs("needs(1, 0, ..)", new int[] {-1, 4}, what -> x.needs(1, 0, what), -1);
        Boundaries.eachIs("keep", new int[] {-1, 2}, x::keep, -1);
        Boundaries.eachIs("back", new int[] {-1, 2}, x::back, -1);
        Boundaries.eachIs("changed(1, ..)", new int[] {-1, 2}, i -> x.changed(1, i), -1);
    }

    @Says(in = "CONVENTIONS", words = "STATE (-2), the call is not possible now, as the method says")
    static void stateIsForWhatIsNotPossibleNow() {
        Check.due("define by an empty text", new StreamJudge().define(0), -2);
        Check.due("undefine without an equation", new StreamJudge().undefine(0), -2);
        Check.due("insert without an equation", new StreamJudge().insert(0, 0), -2);
        Check.due("simplify without an equation", new StreamJudge().simplify(0), -2);
        Check.due("undo without a change", new StreamJudge().undo(), -2);
        Check.due("cycle of what is not plain", Check.judge(2, "eA").cycle(0), -2);
        Check.due("back without an image", new StreamJudge().back(0), -2);
        Check.due("changed without an image", new StreamJudge().changed(0, 0), -2);
        // Later the same calls are possible.
        StreamJudge x = new StreamJudge();
        Check.due("define", Check.equation(x, 0, "A"), 1);
        Check.due("insert", x.insert(0, 0), 1);
        Check.due("simplify", x.simplify(0), 0);
        Check.due("cycle", x.cycle(0), 1000);
        Check.due("keep", x.keep(0), 1);
        Check.due("changed", x.changed(0, 0), -9);
        Check.due("back", x.back(0), 1);
        Check.due("undefine", x.undefine(0), 1);
        Check.due("undo", x.undo(), 4);
    }

    @Says(in = "CONVENTIONS", words = "FULL (-3), a maximum would be exceeded")
    static void fullIsForMaxima() {
        StreamJudge x = withText(StreamJudge::new, "t".repeat(79));
        Check.due("the 80th byte", x.write('A'), 80);
        Check.due("the 81st byte", x.write('A'), -3);
        Check.due("a size of 120 by insert", Check.judge(2, "t".repeat(79) + "B", "t".repeat(40) + "C").insert(0, 1), 120);
        Check.due("a size of 121 by insert", Check.judge(2, "t".repeat(79) + "B", "t".repeat(41) + "C").insert(0, 1), -3);
        Check.due("a size of 120 by simplify", Check.judge(2, ":1" + "t".repeat(29) + "eeA").simplify(0), 87);
        Check.due("a size of 121 by simplify", Check.judge(2, ":1:1" + "t".repeat(29) + "eeA").simplify(0), -3);
        // A ninth state is no maximum that is exceeded: the oldest one goes.
        Check.due("a change with a full history", full().setModulus(2), 7);
    }

    @Says(in = "CONVENTIONS",
        words = "If several of them apply to one call, the first one in this list is returned")
    static void badGoesBeforeStateAndStateBeforeFull() {
        StreamJudge text = withText(StreamJudge::new, "+".repeat(80));
        Check.due("BAD and FULL: write", text.write(127), -1);
        Check.due("BAD and STATE: define", text.define(8), -1);
        StreamJudge x = Check.judge(2, "eA", "t".repeat(79) + "B");
        Check.due("BAD and STATE: insert(8, 7)", x.insert(8, 7), -1);
        Check.due("BAD and STATE: insert(7, 8)", x.insert(7, 8), -1);
        Check.due("BAD and STATE: cycle(8)", x.cycle(8), -1);
        Check.due("BAD and STATE: cycle(-1)", x.cycle(-1), -1);
        Check.due("BAD and STATE: changed(8, 0)", x.changed(8, 0), -1);
        Check.due("BAD and STATE: changed(-1, 1)", x.changed(-1, 1), -1);
        Check.due("BAD and STATE: back(2)", x.back(2), -1);
        Check.due("BAD, where FULL is near: insert(1, 8)", x.insert(1, 8), -1);
        Check.due("BAD, where FULL is near: insert(8, 1)", x.insert(8, 1), -1);
        Check.due("STATE, where FULL is near: insert(1, 7)", x.insert(1, 7), -2);
        Check.due("STATE, where FULL is near: insert(7, 1)", x.insert(7, 1), -2);
        Check.due("FULL alone: insert(1, 1)", x.insert(1, 1), -3);
    }

    @Says(in = "CONVENTIONS", words = "A call that returns one of them changes nothing")
    static void refusedWritingChangesNothing() {
        refused("write(31)", BoundaryConventionsTest::full, x -> x.write(31), -1);
        refused("write(127)", BoundaryConventionsTest::full, x -> x.write(127), -1);
        Supplier<StreamJudge> term = () -> withText(BoundaryConventionsTest::full, "t".repeat(79) + "A");
        Supplier<StreamJudge> noTerm = () -> withText(BoundaryConventionsTest::full, "t".repeat(80));
        refused("write('A') into a full text", term, x -> x.write('A'), -3);
        refused("write('A') into a full text", noTerm, x -> x.write('A'), -3);
        refused("write(127) into a full text", term, x -> x.write(127), -1);
    }

    @Says(in = "CONVENTIONS", words = "A call that returns one of them changes nothing")
    static void refusedChangesChangeNothing() {
        Supplier<StreamJudge> noTerm = () -> withText(BoundaryConventionsTest::full, "+A");
        refused("define(8)", BoundaryConventionsTest::full, x -> x.define(8), -1);
        refused("define(0) by a fault", noTerm, x -> x.define(0), -2);
        refused("define(7) by a fault", noTerm, x -> x.define(7), -2);
        refused("undefine(-1)", BoundaryConventionsTest::full, x -> x.undefine(-1), -1);
        refused("undefine(7)", BoundaryConventionsTest::full, x -> x.undefine(7), -2);
        refused("setModulus(1)", BoundaryConventionsTest::full, x -> x.setModulus(1), -1);
        refused("setModulus(11)", BoundaryConventionsTest::full, x -> x.setModulus(11), -1);
        refused("insert(8, 0)", BoundaryConventionsTest::full, x -> x.insert(8, 0), -1);
        refused("insert(0, 7)", BoundaryConventionsTest::full, x -> x.insert(0, 7), -2);
        refused("insert(4, 4)", BoundaryConventionsTest::full, x -> x.insert(4, 4), -3);
        refused("simplify(8)", BoundaryConventionsTest::full, x -> x.simplify(8), -1);
        refused("simplify(7)", BoundaryConventionsTest::full, x -> x.simplify(7), -2);
        refused("simplify(0)", BoundaryConventionsTest::full, x -> x.simplify(0), -3);
        refused("undo()", StreamJudge::new, StreamJudge::undo, -2);
        refused("keep(2)", BoundaryConventionsTest::full, x -> x.keep(2), -1);
        refused("back(2)", BoundaryConventionsTest::full, x -> x.back(2), -1);
        refused("back(1)", BoundaryConventionsTest::full, x -> x.back(1), -2);
    }

    @Says(in = "CONVENTIONS", words = "A call that returns one of them changes nothing")
    static void refusedQuestionsChangeNothing() {
        refused("told(7)", BoundaryConventionsTest::full, x -> x.told(7), -1);
        refused("listing(0, -1)", BoundaryConventionsTest::full, x -> x.listing(0, -1), -1);
        refused("uses(8)", BoundaryConventionsTest::full, x -> x.uses(8), -1);
        refused("cycle(8)", BoundaryConventionsTest::plain, x -> x.cycle(8), -1);
        refused("cycle(0)", BoundaryConventionsTest::full, x -> x.cycle(0), -2);
        refused("value(0, 400)", BoundaryConventionsTest::full, x -> x.value(0, 400), -1);
        refused("value(8, 0)", BoundaryConventionsTest::plain, x -> x.value(8, 0), -1);
        refused("stream(0, 6)", BoundaryConventionsTest::full, x -> x.stream(0, 6), -1);
        refused("parting(0, 8)", BoundaryConventionsTest::full, x -> x.parting(0, 8), -1);
        refused("alike(8)", BoundaryConventionsTest::full, x -> x.alike(8), -1);
        refused("needs(0, 0, 4)", BoundaryConventionsTest::full, x -> x.needs(0, 0, 4), -1);
        refused("changed(0, 2)", BoundaryConventionsTest::full, x -> x.changed(0, 2), -1);
        refused("changed(0, 1)", BoundaryConventionsTest::full, x -> x.changed(0, 1), -2);
        refused("changed(0, 0)", BoundaryConventionsTest::plain, x -> x.changed(0, 0), -2);
    }

    @Says(in = "CONVENTIONS", words = {"NONE (-9) means that there is no such value",
        "it is returned only if no error code applies"})
    static void noneGivesWayToErrorCodes() {
        // Without equations there would be none of these values, but the arguments are wrong.
        StreamJudge x = new StreamJudge();
        Check.due("listing(0, -1)", x.listing(0, -1), -1);
        Check.due("listing(8, 0)", x.listing(8, 0), -1);
        Check.due("uses(8)", x.uses(8), -1);
        Check.due("cycle(8)", x.cycle(8), -1);
        Check.due("value(0, 400)", x.value(0, 400), -1);
        Check.due("value(8, 0)", x.value(8, 0), -1);
        Check.due("stream(8, 0)", x.stream(8, 0), -1);
        Check.due("stream(0, -1)", x.stream(0, -1), -1);
        Check.due("parting(0, 8)", x.parting(0, 8), -1);
        Check.due("needs(0, 0, 4)", x.needs(0, 0, 4), -1);
        Check.due("needs(0, 400, 0)", x.needs(0, 400, 0), -1);
        Check.due("changed(0, 2)", x.changed(0, 2), -1);
        Check.due("changed(0, 0)", x.changed(0, 0), -2);
        Check.due("cycle(1) without a cycle, not plain", Check.judge(2, "eA").cycle(1), -2);
        // And without an error there is none.
        Check.due("listing(0, 0)", x.listing(0, 0), -9);
        Check.due("uses(0)", x.uses(0), -9);
        Check.due("cycle(0)", x.cycle(0), -9);
        Check.due("value(0, 0)", x.value(0, 0), -9);
        Check.due("stream(0, 0)", x.stream(0, 0), -9);
        Check.due("stream(0, 4)", x.stream(0, 4), -9);
        Check.due("stream(0, 5)", x.stream(0, 5), -9);
        Check.due("parting(0, 1)", x.parting(0, 1), -9);
        Check.due("needs(0, 0, 0)", x.needs(0, 0, 0), -9);
        x.keep(0);
        Check.due("changed(0, 0) behind keep", x.changed(0, 0), -9);
        Check.text(x, "A");
        Check.due("fault()", x.fault(), -9);
    }
}
