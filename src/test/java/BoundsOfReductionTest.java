/** Each sentence of promises 26 and 27 that names a boundary case: at the bound, beyond it, and refused. */
public final class BoundsOfReductionTest {
    private static final Due DUE = new Due("BoundsOfReductionTest");
    private static final int BAD_INDEX = Run.BAD_INDEX;
    private static final int BAD_VALUE = Run.BAD_VALUE;
    private static final int NOT_POSSIBLE = Run.NOT_POSSIBLE;
    private static final int NONE = Run.NONE;

    public static void main(String[] args) {
        polylineFrom();
        polylineTo();
        polylineTolerance();
        polylineIndex();
        polylineWithoutKeys();
        polylineIsNoChange();
        polylineOfTwoFrames();
        polylineAtTheTolerance();
        polylineOfAllFrames();
        polylineIsRounded();
        polylineOfTheSmallestSum();
        polylineOfAsFewFramesAsPossible();
        polylineFirstInOrder();
        decimateTolerance();
        decimateOfFewKeys();
        decimateOfAFullCurve();
        decimateAtTheTolerance();
        decimateKeepsTheEnds();
        decimateFirstOfEquals();
        decimateComparesWithTheOldCurve();
        decimateAtTheLastFrames();
        decimateOfHold();
        decimateOfFreeKeys();
        decimateBehindAClear();
        DUE.finish();
    }

    private static Run run(String sentence) {
        return new Run(DUE, sentence);
    }

    private static Run linear(Run run, int... framesAndValues) {
        for (int i = 0; i < framesAndValues.length; i += 2) {
            run.first("setKey(0, " + framesAndValues[i] + ", " + framesAndValues[i + 1] + ")");
            run.first("setMode(0, " + framesAndValues[i] + ", 2)");
        }
        return run;
    }

    private static Run lineIs(Run run, String arguments, int... frames) {
        run.is("polyline(" + arguments + ", -1)", frames.length);
        for (int i = 0; i < frames.length; i++) {
            run.is("polyline(" + arguments + ", " + i + ")", frames[i]);
        }
        return run.refuses(NONE, "polyline(" + arguments + ", " + frames.length + ")", "polyline(" + arguments + ", MAX)");
    }

    private static void polylineFrom() {
        Run run = linear(run("polyline: from 0 to 960"), 0, 0, 480, 480);
        run.refuses(BAD_VALUE, "polyline(0, -1, 5, 0, -1)", "polyline(0, -1, 0, 0, -1)", "polyline(0, MIN, 5, 0, -1)",
                "polyline(0, MIN, MIN, 0, -1)", "polyline(0, MAX, MIN, 0, -1)", "polyline(0, MAX, 5, 0, -1)",
                "polyline(0, 960, 961, 0, -1)", "polyline(0, 961, 962, 0, -1)", "polyline(0, 960, 960, 0, -1)");
        run.refuses(BAD_INDEX, "polyline(4, -1, 5, 0, -1)", "polyline(-1, 0, 5, -1, -2)");
        lineIs(run, "0, 0, 1, 0", 0, 1);
        lineIs(run, "0, 959, 960, 0", 959, 960);
    }

    private static void polylineTo() {
        Run run = linear(run("polyline: to from + 1 to from + 40, at most 960"), 0, 0, 480, 480);
        run.refuses(BAD_VALUE, "polyline(0, 100, 100, 0, -1)", "polyline(0, 100, 99, 0, -1)", "polyline(0, 100, 141, 0, -1)",
                "polyline(0, 0, 41, 0, -1)", "polyline(0, 0, 0, 0, -1)", "polyline(0, 100, MAX, 0, -1)",
                "polyline(0, 100, MIN, 0, -1)", "polyline(0, 921, 961, 0, -1)", "polyline(0, 940, 961, 0, -1)");
        lineIs(run, "0, 100, 101, 0", 100, 101);
        lineIs(run, "0, 100, 140, 0", 100, 140);
        lineIs(run, "0, 0, 40, 0", 0, 40);
        lineIs(run, "0, 920, 960, 0", 920, 960);
        lineIs(run, "0, 921, 960, 0", 921, 960);
    }

    private static void polylineTolerance() {
        Run run = linear(run("polyline: tolerance 0 to 9999"), 0, 0, 1, 156, 2, 0, 3, 157, 4, 0);
        run.refuses(BAD_VALUE, "polyline(0, 0, 4, -1, -1)", "polyline(0, 0, 4, 10000, -1)", "polyline(0, 0, 4, MIN, -1)",
                "polyline(0, 0, 4, MAX, -1)", "polyline(1, 0, 4, 10000, -1)");
        // 156 units are 9984 parts, 157 are 10048.
        lineIs(run, "0, 0, 2, 0", 0, 1, 2);
        lineIs(run, "0, 0, 2, 9983", 0, 1, 2);
        lineIs(run, "0, 0, 2, 9984", 0, 2);
        lineIs(run, "0, 0, 2, 9999", 0, 2);
        lineIs(run, "0, 2, 4, 9999", 2, 3, 4);
    }

    private static void polylineIndex() {
        Run run = linear(run("polyline: -1 for the number of frames, or an index from 0"), 0, 0, 10, 10, 20, 0);
        run.refuses(BAD_VALUE, "polyline(0, 0, 20, 0, -2)", "polyline(0, 0, 20, 0, MIN)", "polyline(1, 0, 20, 0, -2)");
        run.refuses(NONE, "polyline(0, 0, 20, 0, 3)", "polyline(0, 0, 20, 0, 41)", "polyline(0, 0, 20, 0, MAX)");
        run.refuses(BAD_VALUE, "polyline(0, 0, 41, 0, 3)").refuses(BAD_INDEX, "polyline(4, 0, 20, 0, -2)");
        lineIs(run, "0, 0, 20, 0", 0, 10, 20);
    }

    private static void polylineWithoutKeys() {
        Run run = run("polyline: NOT_POSSIBLE if the curve has no keys");
        run.refuses(NOT_POSSIBLE, "polyline(0, 0, 1, 0, -1)", "polyline(0, 0, 1, 0, 0)", "polyline(0, 0, 40, 9999, MAX)");
        run.refuses(BAD_VALUE, "polyline(0, 0, 0, 0, -1)", "polyline(0, 0, 41, 0, -1)", "polyline(0, 0, 1, -1, -1)");
        run.refuses(BAD_INDEX, "polyline(4, 0, 1, 0, -1)");
        run.first("setKey(0, 480, 3)");
        lineIs(run, "0, 0, 40, 0", 0, 40);
        run.first("removeKey(0, 480)").refuses(NOT_POSSIBLE, "polyline(0, 0, 1, 0, -1)");
    }

    private static void polylineIsNoChange() {
        Run run = linear(run("polyline is no change"), 0, 0, 3, 5);
        run.refuses(2, "polyline(0, 0, 3, 0, -1)").refuses(3, "polyline(0, 0, 3, 0, 1)");
    }

    private static void polylineOfTwoFrames() {
        Run run = linear(run("a set of frames that contains from and to"), 0, -999, 1, 999, 2, -999);
        lineIs(run, "0, 0, 1, 0", 0, 1);
        lineIs(run, "0, 1, 2, 0", 1, 2);
        lineIs(run, "0, 0, 2, 9999", 0, 1, 2);
    }

    private static void polylineAtTheTolerance() {
        Run run = linear(run("differs by at most the tolerance"), 0, 0, 10, 10, 20, 0);
        lineIs(run, "0, 0, 20, 639", 0, 10, 20);
        lineIs(run, "0, 0, 20, 640", 0, 20);
        run.first("setKey(0, 10, -10)");
        lineIs(run, "0, 0, 20, 639", 0, 10, 20);
        lineIs(run, "0, 0, 20, 640", 0, 20);
    }

    /** The greatest number of frames: no two neighbors of the zigzag can be left out. */
    private static void polylineOfAllFrames() {
        Run run = run("polyline of 41 frames");
        run.first("setKey(0, 0, -999)", "setKey(0, 1, 999)", "setKey(0, 2, -999)", "setExtrapolation(0, 0, 2)");
        run.is("polyline(0, 0, 40, 9999, -1)", 41).is("polyline(0, 0, 40, 9999, 0)", 0).is("polyline(0, 0, 40, 9999, 1)", 1);
        run.is("polyline(0, 0, 40, 9999, 39)", 39).is("polyline(0, 0, 40, 9999, 40)", 40);
        run.refuses(NONE, "polyline(0, 0, 40, 9999, 41)");
        run.is("polyline(0, 920, 960, 9999, -1)", 41).is("polyline(0, 920, 960, 9999, 40)", 960);
    }

    /** Halves between the ends are rounded up: 0.5 to 1, but -0.5 to 0. */
    private static void polylineIsRounded() {
        Run run = run("v(a) + round((v(b) - v(a)) * (f - a), b - a)");
        run.first("setKey(0, 0, 0)", "setKey(0, 64, 1)", "setMode(0, 0, 2)", "setMode(0, 64, 2)");
        // A part a frame: nothing is rounded here.
        lineIs(run, "0, 0, 40, 0", 0, 40);
        Run half = run("of two the greater one");
        half.first("setKey(0, 0, 0)", "setKey(0, 4, 0)", "setSlopes(0, 0, 0, 2)", "setSlopes(0, 4, 0, 0)");
        half.is("value(0, 1)", 1).is("value(0, 2)", 1).is("value(0, 3)", 0);
        lineIs(half, "0, 0, 2, 0", 0, 2);
        lineIs(half, "0, 1, 3, 0", 1, 3);
        half.first("setSlopes(0, 0, 0, -2)").is("value(0, 1)", -1).is("value(0, 2)", -1).is("value(0, 3)", 0);
        lineIs(half, "0, 0, 2, 0", 0, 1, 2);
        lineIs(half, "0, 1, 3, 0", 1, 2, 3);
        lineIs(half, "0, 1, 3, 1", 1, 3);
    }

    /** 0, 2, 3, 4 has no differences at all, but one frame more than 0, 1, 4, which has two of 64 parts. */
    private static void polylineOfAsFewFramesAsPossible() {
        Run run = linear(run("it has as few frames as possible"), 0, 0, 1, 0, 2, 0, 3, 3, 4, 3);
        lineIs(run, "0, 0, 4, 64", 0, 1, 4);
        lineIs(run, "0, 0, 4, 63", 0, 2, 3, 4);
        lineIs(run, "0, 0, 4, 0", 0, 2, 3, 4);
        lineIs(run, "0, 0, 4, 96", 0, 4);
    }

    private static void polylineOfTheSmallestSum() {
        Run run = linear(run("of several sets the one with the smallest sum of these differences"), 0, 0, 5, 0, 10, 10);
        // With 64 parts of tolerance 4, 5 and 6 would do; only 5 has no difference at all.
        lineIs(run, "0, 0, 10, 64", 0, 5, 10);
        lineIs(run, "0, 0, 10, 0", 0, 5, 10);
    }

    private static void polylineFirstInOrder() {
        Run run = linear(run("of several the one whose frames come first in lexicographic order"), 0, 0, 1, 10, 2, 10, 3, 0);
        lineIs(run, "0, 0, 3, 320", 0, 1, 3);
        lineIs(run, "0, 0, 3, 319", 0, 1, 2, 3);
        Run longer = linear(run("first in lexicographic order, of longer lines"), 0, 0, 1, 10, 2, 10, 3, 0, 4, 10, 5, 10, 6, 0);
        lineIs(longer, "0, 0, 6, 320", 0, 1, 3, 4, 6);
    }

    private static void decimateTolerance() {
        Run run = linear(run("decimate: tolerance 0 to 9999"), 0, 0, 1, 0, 2, 0, 10, 0, 11, 157, 12, 0);
        run.refuses(BAD_VALUE, "decimate(0, -1)", "decimate(0, 10000)", "decimate(0, MIN)", "decimate(0, MAX)",
                "decimate(1, -1)", "decimate(1, 10000)").refuses(BAD_INDEX, "decimate(4, -1)", "decimate(-1, 10000)");
        run.is("decimate(0, 0)", 2).is("undo()", 9);
        run.first("removeKey(0, 1)", "removeKey(0, 2)", "removeKey(0, 10)");
        // 157 units above the straight way are 10048 parts, 156 are 9984.
        run.is("decimate(0, 9999)", 0).first("setKey(0, 11, 156)").is("decimate(0, 9983)", 0).is("decimate(0, 9999)", 1);
    }

    private static void decimateOfFewKeys() {
        Run run = run("decimate: except its first and its last one");
        run.is("decimate(0, 9999)", 0).first("setKey(0, 5, 5)").is("decimate(0, 9999)", 0).is("keys(0)", 1);
        run.first("setKey(0, 6, 5)").is("decimate(0, 9999)", 0).is("keys(0)", 2);
        run.first("setKey(0, 7, 5)").is("decimate(0, 0)", 1).is("keys(0)", 2).is("frameOf(0, 0)", 5).is("frameOf(0, 1)", 7);
        run.is("decimate(0, 9999)", 0).is("undo()", 7);
    }

    private static void decimateOfAFullCurve() {
        Run run = run("decimate of a full curve");
        for (int i = 0; i < 24; i++) {
            run.first("setKey(0, " + 20 * i + ", " + 5 * i + ")", "setMode(0, " + 20 * i + ", 2)");
        }
        run.is("decimate(0, 0)", 22).is("keys(0)", 2).is("frameOf(0, 0)", 0).is("frameOf(0, 1)", 460).is("undo()", 9);
        run.is("keys(0)", 24).first("setKey(0, 240, 500)").is("decimate(0, 0)", 19).is("keys(0)", 5);
        run.is("frameOf(0, 1)", 220).is("frameOf(0, 2)", 240).is("frameOf(0, 3)", 260);
    }

    private static void decimateAtTheTolerance() {
        Run run = linear(run("as long as its error is at most the tolerance"), 0, 0, 10, 10, 20, 0);
        run.is("decimate(0, 639)", 0).is("keys(0)", 3).is("decimate(0, 640)", 1).is("keys(0)", 2);
        Run below = linear(run("the error of a key below the way"), 0, 0, 10, -10, 20, 0);
        below.is("decimate(0, 639)", 0).is("decimate(0, 640)", 1);
        Run far = linear(run("a key that is kept, and one behind it that is removed"), 0, 0, 10, 10, 20, 0, 30, 5, 40, 0);
        far.is("decimate(0, 319)", 0).is("decimate(0, 320)", 1).is("frameOf(0, 2)", 20).is("frameOf(0, 3)", 40);
    }

    private static void decimateKeepsTheEnds() {
        Run run = linear(run("the first and the last key stay, whatever they are"), 100, 5, 200, 5, 300, 5, 400, 5);
        run.first("setExtrapolation(0, 2, 1)").is("decimate(0, 9999)", 2).is("frameOf(0, 0)", 100).is("frameOf(0, 1)", 400);
        run.is("setExtrapolation(0, 0, 0)", 21);
    }

    /** A plateau: without one corner, be it the first or the second, the way differs by 128. */
    private static void decimateFirstOfEquals() {
        Run run = linear(run("the key with the smallest error, of several the first one"), 0, 0, 10, 4, 20, 4, 30, 0);
        run.is("decimate(0, 127)", 0).is("decimate(0, 128)", 1).is("frameOf(0, 1)", 20);
        run.is("undo()", 9).is("decimate(0, 255)", 1).is("frameOf(0, 1)", 20);
    }

    /**
     * Without the keys at 8 and 24 the way differs by 64 and 96 at most. Without the one at 16 too it differs by 112 at
     * frame 8 from the old curve, but nowhere by more than 96 from the way that is left then.
     */
    private static void decimateComparesWithTheOldCurve() {
        Run run = linear(run("the values that the curve had before the call"), 0, 5, 8, 3, 16, 3, 24, 5, 32, 4);
        run.is("decimate(0, 63)", 0).is("decimate(0, 96)", 2).is("frameOf(0, 1)", 16).is("undo()", 9);
        run.is("decimate(0, 111)", 2).is("frameOf(0, 1)", 16).is("undo()", 9).is("decimate(0, 112)", 3).is("keys(0)", 2);
        run.is("undo()", 9).is("decimate(0, 64)", 1).is("frameOf(0, 1)", 16).is("frameOf(0, 2)", 24).is("undo()", 9);
        run.is("decimate(0, 95)", 1).is("keys(0)", 4);
    }

    private static void decimateAtTheLastFrames() {
        Run run = linear(run("all frames from the first to the last key"), 0, 0, 1, 5, 2, 0);
        run.is("decimate(0, 319)", 0).is("decimate(0, 320)", 1);
        Run last = linear(run("all frames up to 480"), 478, 0, 479, 5, 480, 0);
        last.is("decimate(0, 319)", 0).is("decimate(0, 320)", 1);
        Run wide = linear(run("a key near the end of a wide way"), 0, 0, 479, 0, 480, 9);
        wide.is("decimate(0, 574)", 0).is("decimate(0, 575)", 1);
    }

    private static void decimateOfHold() {
        Run run = linear(run("without this key a key with the mode HOLD goes on"), 0, 0, 10, 5, 20, 5).first("setMode(0, 0, 6)");
        run.is("decimate(0, 319)", 0).is("decimate(0, 320)", 1).is("value(0, 19)", 0);
        Run same = linear(run("a key with the mode HOLD that changes nothing"), 0, 5, 10, 5, 20, 50);
        same.first("setMode(0, 0, 6)", "setMode(0, 10, 6)").is("decimate(0, 0)", 1).is("frameOf(0, 1)", 20);
    }

    /** Straight ways: one with the values 6, 16 and 26, and one with slopes of 6. */
    private static void decimateOfFreeKeys() {
        Run run = linear(run("decimate with FREE keys at the ends"), 0, 6, 10, 16, 20, 26);
        run.first("setSlopes(0, 0, 9999, 64)", "setSlopes(0, 20, 64, -9999)").is("decimate(0, 0)", 1);
        Run flat = linear(run("decimate with FREE keys of small slopes"), 0, 0, 32, 3, 64, 6);
        flat.first("setSlopes(0, 0, 6, 6)", "setSlopes(0, 32, 6, 6)").is("decimate(0, 0)", 1).is("frameOf(0, 1)", 64);
    }

    private static void decimateBehindAClear() {
        Run run = run("decimate of a curve that had more keys and other values before");
        for (int i = 0; i < 24; i++) {
            run.first("setKey(0, " + 20 * i + ", " + (i % 2 == 0 ? 999 : -999) + ")");
        }
        linear(run.is("decimate(0, 9999)", 0).is("clear(0)", 24), 0, 0, 10, 10, 20, 20).is("decimate(0, 0)", 1);
        linear(run.is("clear(0)", 2), 0, 0, 10, 10, 20, 0).is("decimate(0, 639)", 0).is("decimate(0, 640)", 1);
    }
}
