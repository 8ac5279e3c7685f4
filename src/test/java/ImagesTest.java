/** Promises 20 to 22: keep, back, changed. */
public final class ImagesTest {
    private ImagesTest() {
    }

    public static void main(String[] args) {
        testKeep();
        testBack();
        testChanged();
        testErrors();
        Check.finish();
    }

    private static void testKeep() {
        StreamJudge x = new StreamJudge();
        Check.due("keep(0) of nothing", x.keep(0), 0);
        Check.due("changed(0, 0)", x.changed(0, 0), -9);
        Check.equation(x, 3, ":1D");
        Check.equation(x, 4, "z01");
        Check.due("keep(1)", x.keep(1), 2);
        Check.due("told(5), keep is no change", x.told(5), 2);
        Check.due("back(0) to nothing", x.back(0), 0);
        Check.due("told(1)", x.told(1), 0);
        Check.due("back(1)", x.back(1), 2);
        Check.due("listing", Check.listingOf(x, 4), "z01");
        x.undefine(3);
        Check.due("keep(1) replaces", x.keep(1), 1);
        x.undo();
        Check.due("told(1) behind undo", x.told(1), 2);
        Check.due("back(1) to the later image", x.back(1), 1);
    }

    private static void testBack() {
        StreamJudge x = Check.judge(5, ":1+1A", "A");
        x.keep(0);
        x.setModulus(3);
        Check.equation(x, 0, "7");
        Check.equation(x, 2, "6");
        x.undefine(1);
        int changes = x.told(5);
        Check.due("back(0)", x.back(0), 2);
        Check.due("M", x.told(0), 5);
        Check.due("listing(0)", Check.listingOf(x, 0), ":1+1A");
        Check.due("listing(1)", Check.listingOf(x, 1), "A");
        Check.due("listing(2)", Check.listingOf(x, 2), "");
        Check.due("values", Check.valuesOf(x, 1, 6), "123401");
        Check.due("undo()", x.undo(), changes);
        Check.due("M behind undo", x.told(0), 3);
        Check.due("values behind undo", Check.valuesOf(x, 0, 3), "111");
        Check.due("listing(1) behind undo", Check.listingOf(x, 1), "");
        Check.due("the image stays", x.back(0), 2);
        x.undefine(0);
        x.setModulus(9);
        Check.due("the image is no part of the state", x.back(0), 2);
        Check.due("M", x.told(0), 5);
    }

    private static void testChanged() {
        StreamJudge x = Check.judge(10, ":1:2:35", ":4B", "tB");
        x.keep(0);
        Check.due("changed(0, 0), nothing", x.changed(0, 0), -9);
        Check.equation(x, 0, ":1:2:45");
        Check.due("changed(0, 0), another value", x.changed(0, 0), 2);
        Check.equation(x, 0, ":1:2:3:5:5:58");
        Check.due("changed(0, 0)", x.changed(0, 0), 6);
        Check.equation(x, 0, ":1:2:3:5:5:5D");
        Check.due("changed(0, 0), only one can be computed", x.changed(0, 0), 6);
        x.keep(1);
        Check.due("changed(0, 1)", x.changed(0, 1), -9);
        x.back(0);
        Check.due("changed(0, 1), only the other one", x.changed(0, 1), 6);
        x.undefine(1);
        Check.due("changed(2, 0) over another stream", x.changed(2, 0), 0);
        x.undo();
        Check.equation(x, 2, "B");
        Check.due("changed(2, 0) at the last index alone", x.changed(2, 0), 399);
        x.setModulus(4);
        Check.due("changed(1, 0) by the modulus", x.changed(1, 0), 0);
        Check.due("changed(0, 0) by the modulus", x.changed(0, 0), 3);
        x.keep(0);
        Check.due("changed(0, 0) behind a new image", x.changed(0, 0), -9);
        Check.due("changed(7, 0), without an equation", x.changed(7, 0), -9);
    }

    private static void testErrors() {
        StreamJudge x = Check.judge(2, "A");
        for (int i : new int[] {-1, 2, Integer.MAX_VALUE, Integer.MIN_VALUE}) {
            Check.due("keep(" + i + ")", x.keep(i), -1);
            Check.due("back(" + i + ")", x.back(i), -1);
            Check.due("changed(0, " + i + ")", x.changed(0, i), -1);
        }
        Check.due("changed(8, 0)", x.changed(8, 0), -1);
        Check.due("changed(-1, 0)", x.changed(-1, 0), -1);
        int changes = x.told(5);
        Check.due("back(0) without an image", x.back(0), -2);
        Check.due("changed(0, 0) without an image", x.changed(0, 0), -2);
        x.keep(1);
        Check.due("back(0), the other image is kept", x.back(0), -2);
        Check.due("changed(0, 0), the other image is kept", x.changed(0, 0), -2);
        Check.due("told(5) behind errors", x.told(5), changes);
        Check.due("back(1)", x.back(1), 1);
    }
}
