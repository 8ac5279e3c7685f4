/** The boundary cases of what the document says of images: promises 20 to 22. */
public final class BoundaryImagesTest {
    private BoundaryImagesTest() {
    }

    public static void main(String[] args) throws Exception {
        Boundaries.run(BoundaryImagesTest.class);
    }

    /** A judge whose image 0 keeps an older system; image 1 keeps nothing. */
    private static StreamJudge withImage() {
        StreamJudge x = Check.judge(5, ":1+1A", "tA");
        x.keep(0);
        Check.equation(x, 0, "zAB");
        x.setModulus(7);
        Check.equation(x, 2, "3");
        return x;
    }

    // ---- promise 20

    @Says(in = "Promise 20", words = "Keeps M and all equations in an image")
    static void keepKeepsMAndAllEquations() {
        for (int i = 0; i < 2; i++) {
            StreamJudge x = Check.judge(10, "1", "2", "3", "4", "5", "6", "7", "8");
            Check.due("keep(" + i + ")", x.keep(i), 8);
            x.setModulus(2);
            for (int a = 0; a < 8; a++) {
                x.undefine(a);
            }
            Check.due("back(" + i + ")", x.back(i), 8);
            Check.due("M", x.told(0), 10);
            for (int a = 0; a < 8; a++) {
                Check.due("equation of " + a, Check.listingOf(x, a), "" + (a + 1));
            }
        }
        // An image without equations is an image all the same.
        StreamJudge x = new StreamJudge();
        Check.due("keep(1) of nothing", x.keep(1), 0);
        Check.equation(x, 0, "1");
        Check.due("changed(0, 1)", x.changed(0, 1), 0);
        Check.due("back(1)", x.back(1), 0);
        Check.due("told(1)", x.told(1), 0);
    }

    @Says(in = "Promise 20", words = "replacing what it kept before")
    static void keepReplaces() {
        StreamJudge x = Check.judge(5, "1", "2");
        x.keep(0);
        x.keep(1);
        Check.due("changed(0, 0)", x.changed(0, 0), -9);
        x.undefine(1);
        Check.equation(x, 0, ":14");
        x.setModulus(6);
        Check.due("changed(0, 0) before keep", x.changed(0, 0), 1);
        Check.due("keep(0)", x.keep(0), 1);
        Check.due("changed(0, 0) behind keep", x.changed(0, 0), -9);
        Check.due("changed(0, 1), the other image stays", x.changed(0, 1), 1);
        Check.due("back(1)", x.back(1), 2);
        Check.due("changed(0, 0)", x.changed(0, 0), 1);
        Check.due("changed(1, 0), its older equation is gone", x.changed(1, 0), 0);
        Check.due("back(0)", x.back(0), 1);
        Check.due("M", x.told(0), 6);
        Check.due("listing(0)", Check.listingOf(x, 0), ":14");
        Check.due("listing(1)", Check.listingOf(x, 1), "");
    }

    @Says(in = "Promise 20", words = "Returns the number of streams with an equation")
    static void keepTellsTheNumber() {
        StreamJudge x = new StreamJudge();
        Check.due("keep(0)", x.keep(0), 0);
        for (int a = 0; a < 8; a++) {
            Check.equation(x, 7 - a, "H");
            Check.due("keep(" + a % 2 + ")", x.keep(a % 2), a + 1);
        }
        x.undefine(0);
        Check.due("keep(0) behind undefine", x.keep(0), 7);
    }

    @Says(in = "Promise 20", words = {"BAD if there is no such image", "`i`: the image, 0 or 1"})
    static void keepRefusesOtherImages() {
        for (int i : Boundaries.NO_IMAGES) {
            Boundaries.refusedChangesNothing("keep(" + i + ")", BoundaryImagesTest::withImage, x -> x.keep(i), -1);
        }
        StreamJudge x = withImage();
        Check.due("keep(0)", x.keep(0), 3);
        Check.due("keep(1)", x.keep(1), 3);
    }

    // ---- promise 21

    @Says(in = "Promise 21", words = "Makes what an image keeps the present state")
    static void backMakesItPresent() {
        StreamJudge x = withImage();
        Check.due("value(2, 0) before back", x.value(2, 0), 3);
        Check.due("value(0, 0) before back", x.value(0, 0), -9);
        Check.due("back(0)", x.back(0), 2);
        Check.due("M", x.told(0), 5);
        Check.due("listing(0)", Check.listingOf(x, 0), ":1+1A");
        Check.due("listing(1)", Check.listingOf(x, 1), "tA");
        Check.due("listing(2), which the image has not", Check.listingOf(x, 2), "");
        Check.due("value(0, 6)", x.value(0, 6), 2);
        Check.due("value(2, 0)", x.value(2, 0), -9);
        Check.due("the text is no part of it", x.told(4), 1);
    }

    @Says(in = "Promise 21", words = "the image stays")
    static void backLeavesTheImage() {
        StreamJudge x = withImage();
        for (int k = 0; k < 3; k++) {
            Check.due("back(0)", x.back(0), 2);
            Check.due("listing(0)", Check.listingOf(x, 0), ":1+1A");
            // What changes then is not the image.
            Check.equation(x, 0, "4");
            x.setModulus(2 + k);
            x.undefine(1);
            Check.due("changed(1, 0)", x.changed(1, 0), 0);
        }
        Check.due("undo() does not touch it", x.undo() >= 0 ? x.back(0) : -1, 2);
    }

    @Says(in = "Promise 21", words = "This is a change")
    static void backIsAChange() {
        for (Boundaries.Look look : Boundaries.Look.values()) {
            StreamJudge x = withImage();
            int changes = x.told(5);
            x.alike(0);
            x.back(0);
            x.alike(0);
            Check.due("told(5) behind back", x.told(5), changes + 1);
            Check.due("undo() of back", x.undo(), changes);
            Check.due(look + " behind back and undo()", look.at(x), look.at(withImage()));
        }
        StreamJudge y = new StreamJudge();
        y.keep(0);
        for (int k = 1; k <= 9; k++) {
            y.back(0);
            Check.due("told(5), also where nothing is altered", y.told(5), Math.min(k, 8));
        }
    }

    @Says(in = "Promise 21", words = "Returns the number of streams with an equation")
    static void backTellsTheNumber() {
        StreamJudge x = new StreamJudge();
        x.keep(0);
        for (int a = 0; a < 8; a++) {
            Check.equation(x, a, "1");
        }
        x.keep(1);
        Check.due("back(0) to none", x.back(0), 0);
        Check.due("back(1) to all", x.back(1), 8);
    }

    @Says(in = "Promise 21", words = {"BAD if there is no such image", "`i`: the image"})
    static void backRefusesOtherImages() {
        for (int i : Boundaries.NO_IMAGES) {
            Boundaries.refusedChangesNothing("back(" + i + ")", BoundaryImagesTest::withImage, x -> x.back(i), -1);
        }
    }

    @Says(in = "Promise 21", words = "STATE if it keeps nothing")
    static void backRefusesWithoutAnImage() {
        Boundaries.refusedChangesNothing("back(1)", BoundaryImagesTest::withImage, x -> x.back(1), -2);
        Boundaries.refusedChangesNothing("back(0) of a new judge", StreamJudge::new, x -> x.back(0), -2);
        StreamJudge x = new StreamJudge();
        x.keep(1);
        Check.due("back(0), the other one keeps something", x.back(0), -2);
        Check.due("back(1)", x.back(1), 0);
    }

    // ---- promise 22

    @Says(in = "Promise 22",
        words = "Compares the present values of a stream with those that it has by the equations and the M of an image")
    static void changedComparesWithTheWholeImage() {
        // The modulus of the image counts, and the equations of the other streams in it.
        StreamJudge x = Check.judge(10, ":1:2B", ":37", "A");
        x.keep(0);
        x.setModulus(5);
        Check.due("changed(0, 0) by M", x.changed(0, 0), 3);
        Check.due("changed(1, 0) by M", x.changed(1, 0), 1);
        Check.due("changed(2, 0) by M", x.changed(2, 0), 3);
        x.undo();
        Check.equation(x, 1, ":47");
        Check.due("changed(0, 0) by B", x.changed(0, 0), 2);
        Check.due("changed(2, 0) by B over A", x.changed(2, 0), 2);
        x.undo();
        // Another equation with the same values is no difference.
        Check.equation(x, 0, ":1:2:37");
        Check.due("changed(0, 0) by another equation", x.changed(0, 0), -9);
        // Both images, each with its own M and equations.
        x.setModulus(6);
        x.keep(1);
        Check.due("changed(0, 1)", x.changed(0, 1), -9);
        Check.due("changed(0, 0)", x.changed(0, 0), 3);
        x.back(0);
        Check.due("changed(0, 0) behind back", x.changed(0, 0), -9);
        Check.due("changed(0, 1) behind back", x.changed(0, 1), 3);
    }

    @Says(in = "Promise 22",
        words = "Returns the least index at which the values are different, or only one of them can be computed")
    static void changedFrom0To399() {
        StreamJudge x = Check.judge(10, "5", "tA", ":5:5C", "zA6");
        x.keep(0);
        Check.equation(x, 0, "6");
        Check.due("another value at 0", x.changed(0, 0), 0);
        Check.due("another value at 0 in who needs it", x.changed(3, 0), 0);
        x.undo();
        Check.equation(x, 1, "A");
        Check.due("only the present one at 399", x.changed(1, 0), 399);
        x.keep(1);
        Check.equation(x, 1, "tA");
        Check.due("only the image's at 399", x.changed(1, 1), 399);
        Check.equation(x, 2, ":5:5H");
        Check.due("only the image's at 2", x.changed(2, 0), 2);
        x.undefine(2);
        Check.due("only the image's at 0", x.changed(2, 0), 0);
        Check.equation(x, 7, ":1H");
        Check.due("only the present one at 0", x.changed(7, 0), 0);
        Check.equation(x, 3, "zAB");
        Check.due("another value at 1", x.changed(3, 0), 1);
        // A difference behind a gap that both have, and a gap before a difference.
        StreamJudge y = Check.judge(10, "zH1", "zH1", ":1:1H");
        y.keep(0);
        Check.equation(y, 0, "zH2");
        Check.due("behind what neither has", y.changed(0, 0), 1);
        Check.equation(y, 1, ":3zH2");
        Check.due("at what only the present one has", y.changed(1, 0), 0);
        Check.equation(y, 2, ":1H");
        Check.due("at what only the image has", y.changed(2, 0), 1);
        // The last value alone: a 7 at 399 by a zip of what has it at 199.
        StreamJudge z = Check.judge(10, "z0B", "z0C", ":0".repeat(39) + "D", ":0".repeat(39) + "E", ":0".repeat(21) + "0");
        z.keep(0);
        Check.equation(z, 4, ":0".repeat(21) + ":70");
        Check.due("another value at 399", z.changed(0, 0), 399);
    }

    @Says(in = "Promise 22", words = "NONE if there is none")
    static void changedWithoutADifference() {
        StreamJudge x = Check.judge(10, ":1+1A", "tA", "D");
        x.keep(0);
        for (int a = 0; a < 8; a++) {
            Check.due("changed(" + a + ", 0) at once", x.changed(a, 0), -9);
        }
        x.insert(0, 0);
        x.simplify(0);
        for (int a = 0; a < 8; a++) {
            Check.due("changed(" + a + ", 0) behind insert and simplify", x.changed(a, 0), -9);
        }
        Check.equation(x, 2, "C");
        Check.due("stuck in another way", x.changed(2, 0), -9);
        x.undefine(2);
        Check.due("stuck without an equation", x.changed(2, 0), -9);
    }

    @Says(in = "Promise 22", words = {"BAD if there is no such stream or image", "`a`: the stream", "`i`: the image"})
    static void changedRefusesTheRest() {
        StreamJudge x = withImage();
        Boundaries.eachIs("changed(.., 0)", Boundaries.NO_STREAMS, a -> x.changed(a, 0), -1);
        Boundaries.eachIs("changed(.., 1)", Boundaries.NO_STREAMS, a -> x.changed(a, 1), -1);
        Boundaries.eachIs("changed(0, ..)", Boundaries.NO_IMAGES, i -> x.changed(0, i), -1);
        Boundaries.eachIs("changed(7, ..)", Boundaries.NO_IMAGES, i -> x.changed(7, i), -1);
        Boundaries.eachIs("changed(.., 2)", Boundaries.NO_STREAMS, a -> x.changed(a, 2), -1);
    }

    @Says(in = "Promise 22", words = "STATE if it keeps nothing")
    static void changedRefusesWithoutAnImage() {
        StreamJudge x = withImage();
        for (int a = 0; a < 8; a++) {
            Check.due("changed(" + a + ", 1)", x.changed(a, 1), -2);
        }
        x.keep(1);
        Check.due("changed(0, 1) behind keep", x.changed(0, 1), -9);
        Check.due("changed(0, 0) of a new judge", new StreamJudge().changed(0, 0), -2);
        Check.due("changed(7, 1) of a new judge", new StreamJudge().changed(7, 1), -2);
    }
}
