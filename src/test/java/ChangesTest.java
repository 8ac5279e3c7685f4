/** Promises 5 to 10: define, undefine, setModulus, insert, simplify, undo. */
public final class ChangesTest {
    private ChangesTest() {
    }

    public static void main(String[] args) {
        testDefine();
        testUndefine();
        testSetModulus();
        testInsert();
        testInsertBounds();
        testSimplifyRules();
        testSimplifyOrder();
        testSimplifyErrors();
        testUndo();
        testHistoryHoldsEight();
        Check.finish();
    }

    private static void testDefine() {
        StreamJudge x = new StreamJudge();
        Check.due("define(0) by an empty text", x.define(0), -2);
        Check.due("define(8) by an empty text", x.define(8), -1);
        Check.due("told(5) behind errors", x.told(5), 0);
        Check.text(x, " : 3 + A t 9 ");
        Check.due("define(-1)", x.define(-1), -1);
        Check.due("define(8)", x.define(8), -1);
        Check.due("define(7)", x.define(7), 5);
        Check.due("listing", Check.listingOf(x, 7), ":3+At9");
        Check.due("the text stays", x.told(4), 13);
        Check.due("define(0) by the same text", x.define(0), 5);
        Check.due("define(0) once more", x.define(0), 5);
        Check.due("told(5)", x.told(5), 3);
        Check.due("size of 80 parts", Check.equation(x, 1, "o".repeat(79) + "B"), 80);
        Check.due("size of fronts", Check.equation(x, 1, ":1".repeat(39) + "B"), 40);
        Check.text(x, "+A");
        Check.due("define(1) by a text with a fault", x.define(1), -2);
        Check.due("listing behind an error", Check.listingOf(x, 1), ":1".repeat(39) + "B");
    }

    private static void testUndefine() {
        StreamJudge x = Check.judge(5, "+A1", "", ":1C");
        int changes = x.told(5);
        Check.due("undefine(-1)", x.undefine(-1), -1);
        Check.due("undefine(8)", x.undefine(8), -1);
        Check.due("undefine(1) without an equation", x.undefine(1), -2);
        Check.due("told(5) behind errors", x.told(5), changes);
        Check.due("undefine(0)", x.undefine(0), 3);
        Check.due("undefine(0) twice", x.undefine(0), -2);
        Check.due("told(5)", x.told(5), changes + 1);
        Check.due("told(1)", x.told(1), 1);
        Check.due("listing", Check.listingOf(x, 0), "");
        Check.due("undo()", x.undo(), changes);
        Check.due("listing behind undo", Check.listingOf(x, 0), "+A1");
    }

    private static void testSetModulus() {
        StreamJudge x = new StreamJudge();
        Check.due("setModulus(1)", x.setModulus(1), -1);
        Check.due("setModulus(11)", x.setModulus(11), -1);
        Check.due("setModulus(0)", x.setModulus(0), -1);
        Check.due("setModulus(-5)", x.setModulus(-5), -1);
        Check.due("told(5) behind errors", x.told(5), 0);
        Check.due("setModulus(10)", x.setModulus(10), 2);
        Check.due("setModulus(3)", x.setModulus(3), 10);
        Check.due("setModulus(3) again", x.setModulus(3), 3);
        Check.due("told(5), the same modulus is a change too", x.told(5), 3);
        Check.due("setModulus(2)", x.setModulus(2), 3);
        Check.due("undo()", x.undo(), 3);
        Check.due("told(0)", x.told(0), 3);
        x.undo();
        x.undo();
        Check.due("told(0) behind two undos", x.told(0), 10);
        Check.equation(x, 0, ":7 + 8 * 3 4");
        Check.due("values modulo 10", Check.valuesOf(x, 0, 3), "700");
        x.setModulus(7);
        Check.due("values modulo 7", Check.valuesOf(x, 0, 3), "066");
        Check.due("the digits stay as written", Check.listingOf(x, 0), ":7+8*34");
    }

    private static void testInsert() {
        StreamJudge x = Check.judge(2, "+A*BB", "z1tC");
        int changes = x.told(5);
        Check.due("insert(8, 0)", x.insert(8, 0), -1);
        Check.due("insert(0, 8)", x.insert(0, 8), -1);
        Check.due("insert(-1, 3)", x.insert(-1, 3), -1);
        Check.due("insert(0, 2) without an equation of C", x.insert(0, 2), -2);
        Check.due("insert(2, 0) without an equation of C", x.insert(2, 0), -2);
        Check.due("told(5) behind errors", x.told(5), changes);
        Check.due("insert(0, 1)", x.insert(0, 1), 11);
        Check.due("listing", Check.listingOf(x, 0), "+A*z1tCz1tC");
        Check.due("insert(0, 1) without an occurrence", x.insert(0, 1), 11);
        Check.due("it is a change all the same", x.told(5), changes + 2);
        Check.due("insert(0, 0)", x.insert(0, 0), 21);
        Check.due("listing behind itself", Check.listingOf(x, 0), "++A*z1tCz1tC*z1tCz1tC");
        Check.due("the other one stays", Check.listingOf(x, 1), "z1tC");
        StreamJudge one = Check.judge(2, "B", ":3A");
        Check.due("insert into a single part", one.insert(0, 1), 2);
        Check.due("listing", Check.listingOf(one, 0), ":3A");
        StreamJudge y = Check.judge(2, "+BB", ":3+BA");
        Check.due("b occurs in its own term", y.insert(0, 1), 9);
        Check.due("each occurrence once, as it was", Check.listingOf(y, 0), "+:3+BA:3+BA");
    }

    private static void testInsertBounds() {
        StreamJudge x = Check.judge(2, "t".repeat(79) + "B", "t".repeat(41) + "A");
        int changes = x.told(5);
        Check.due("insert to the size 121", x.insert(0, 1), -3);
        Check.due("insert to the size 121, bad stream first", x.insert(0, 9), -1);
        Check.due("told(5) behind FULL", x.told(5), changes);
        Check.due("the equation stays", x.stream(0, 0), 80);
        Check.equation(x, 1, "t".repeat(40) + "A");
        Check.due("insert to the size 120", x.insert(0, 1), 120);
        Check.due("insert(0, 0) at 120", x.insert(0, 0), -3);
        StreamJudge y = Check.judge(2, "+".repeat(39) + "A".repeat(40), ":1:2B");
        Check.due("insert of much", y.insert(0, 0), -3);
        Check.due("listing of fronts", y.insert(1, 1) == 5 ? Check.listingOf(y, 1) : "", ":1:2:1:2B");
    }

    private static void simplifies(String from, String to, int applied) {
        StreamJudge x = Check.judge(2, from);
        int changes = x.told(5);
        Check.due("simplify of " + from, x.simplify(0), applied);
        Check.due("simplify of " + from, Check.listingOf(x, 0), to);
        Check.due("told(5) behind simplify of " + from, x.told(5), changes + 1);
        Check.due("a second simplify of " + from, x.simplify(0), 0);
        x.undo();
        x.undo();
        Check.due("undo of simplify of " + from, Check.listingOf(x, 0), from);
    }

    private static void testSimplifyRules() {
        simplifies("A", "A", 0);
        simplifies("ttA", "ttA", 0);
        simplifies("t:5B", "B", 1);
        simplifies("t:5:6B", ":6B", 1);
        simplifies("tt:5:6B", "B", 2);
        simplifies("t7", "7", 1);
        simplifies("ttt7", "7", 3);
        simplifies("t+AB", "+tAtB", 1);
        simplifies("t*AB", "*tAtB", 1);
        simplifies("t+1:2B", "+1B", 3);
        simplifies("tzAB", "zBtA", 1);
        simplifies("ttzAB", "ztAtB", 2);
        simplifies("ezAB", "A", 1);
        simplifies("ozAB", "B", 1);
        simplifies("ez+CD:1E", "+CD", 1);
        simplifies("oz+CD:1E", ":1E", 1);
        simplifies("teA", "ettA", 1);
        simplifies("toA", "ottA", 1);
        simplifies("e4", "4", 1);
        simplifies("o4", "4", 1);
        simplifies("eoe4", "4", 3);
        simplifies("zeAoA", "A", 1);
        simplifies("zoAeA", "zoAeA", 0);
        simplifies("zeAoB", "zeAoB", 0);
        simplifies("ze+ABo+BA", "ze+ABo+BA", 0);
        simplifies("ze:1Ao:1A", ":1A", 1);
        simplifies("ze:1Ao:3A", "ze:1Ao:3A", 0);
        simplifies("ze+:1AtBo+:1AtB", "+:1AtB", 1);
        simplifies(":1tA", ":1tA", 0);
        simplifies("zAA", "zAA", 0);
        simplifies("e:1A", "e:1A", 0);
        simplifies("e+AB", "e+AB", 0);
    }

    /** Where the first term counts: outer ones go before inner ones, so the number of steps tells. */
    private static void testSimplifyOrder() {
        simplifies("te:1tzCB", "tC", 5);
        simplifies("zetzABotzAB", "zBtA", 2);
        simplifies("zetzABozBtA", "zBtA", 2);
        simplifies("ez7t+AB", "7", 1);
        simplifies("oz7t+AB", "+tAtB", 2);
        simplifies("t:1t:2A", "A", 2);
        simplifies("tt+*AB:1C", "+*ttAttBtC", 5);
        simplifies("zezABoz1t2", "zA2", 3);
        simplifies("tzeAoA", "zoAettA", 2);
        simplifies("tez1A", "1", 5);
    }

    private static void testSimplifyErrors() {
        StreamJudge x = new StreamJudge();
        Check.due("simplify(-1)", x.simplify(-1), -1);
        Check.due("simplify(8)", x.simplify(8), -1);
        Check.due("simplify(3) without an equation", x.simplify(3), -2);
        Check.equation(x, 0, "t".repeat(20) + "eeeA");
        int changes = x.told(5);
        Check.due("simplify beyond 120", x.simplify(0), -3);
        Check.due("the equation stays", Check.listingOf(x, 0), "t".repeat(20) + "eeeA");
        Check.due("told(5) behind FULL", x.told(5), changes);
        // Behind the last crossing there are 4 * 29 tails, two e's and the stream: 119; one more tail makes 123.
        Check.equation(x, 0, "t".repeat(29) + "eeA");
        Check.due("simplify up to 119", x.simplify(0), 87);
        Check.due("size 119", x.stream(0, 0), 119);
        Check.equation(x, 0, ":1" + "t".repeat(29) + "eeA");
        Check.due("simplify up to 120", x.simplify(0), 87);
        Check.due("size 120", x.stream(0, 0), 120);
        Check.equation(x, 0, ":1:1" + "t".repeat(29) + "eeA");
        Check.due("simplify up to 121", x.simplify(0), -3);
        // What would shrink again later is refused as well.
        Check.equation(x, 0, "ez1" + "t".repeat(35) + "eeA");
        Check.due("an outer rule goes first", x.simplify(0), 1);
        Check.equation(x, 0, "+" + "t".repeat(35) + "ee1A");
        Check.due("too great on the way", x.simplify(0), -3);
    }

    private static void testUndo() {
        StreamJudge x = new StreamJudge();
        Check.due("undo() at first", x.undo(), -2);
        Check.equation(x, 0, ":1A");
        x.setModulus(5);
        x.keep(0);
        Check.due("keep is no change", x.told(5), 2);
        Check.text(x, "+AB");
        Check.due("undo()", x.undo(), 1);
        Check.due("M is restored", x.told(0), 2);
        Check.due("the text stays", x.told(4), 3);
        Check.due("undo()", x.undo(), 0);
        Check.due("the equation is gone", x.told(1), 0);
        Check.due("the image stays", x.changed(0, 0), 0);
        Check.due("undo() at the end", x.undo(), -2);
        Check.due("back(0)", x.back(0), 1);
        Check.due("back is a change", x.told(5), 1);
        Check.due("undo()", x.undo(), 0);
        Check.due("told(1)", x.told(1), 0);
        Check.due("values are forgotten with the equations", x.value(0, 0), -9);
    }

    private static void testHistoryHoldsEight() {
        StreamJudge x = new StreamJudge();
        for (int k = 0; k < 10; k++) {
            Check.equation(x, 0, ":1".repeat(k) + "A");
            Check.due("told(5) behind change " + (k + 1), x.told(5), Math.min(k + 1, 8));
        }
        for (int k = 7; k >= 0; k--) {
            Check.due("undo()", x.undo(), k);
            Check.due("size behind undo", x.stream(0, 0), k + 2);
        }
        Check.due("undo() beyond the oldest", x.undo(), -2);
        Check.due("size of the oldest", x.stream(0, 0), 2);
        Check.equation(x, 0, "+AA");
        Check.due("told(5) behind a new change", x.told(5), 1);
        Check.due("undo() of it", x.undo(), 0);
        Check.due("size behind it", x.stream(0, 0), 2);
    }
}
