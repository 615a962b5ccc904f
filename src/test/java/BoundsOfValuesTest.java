/** Each sentence of "Evaluation" and of promises 15 to 19 that names a boundary case: at the bound, beyond it, and refused. */
public final class BoundsOfValuesTest {
    private static final Due DUE = new Due("BoundsOfValuesTest");
    private static final int BAD_INDEX = Run.BAD_INDEX;
    private static final int BAD_VALUE = Run.BAD_VALUE;
    private static final int NONE = Run.NONE;

    public static void main(String[] args) {
        valueOfAHalf();
        atTheKeys();
        holdUpToTheNextKey();
        onlyOneKeyIsConstant();
        constantBounds();
        slopeBounds();
        slopeOfEachMode();
        cycleBounds();
        bounceBounds();
        offsetBounds();
        lengthOfOneFrame();
        lengthOf480Frames();
        lastTwoFrames();
        sidesAreApart();
        greatestValues();
        valueFrames();
        unitsBounds();
        meanBounds();
        extremeBounds();
        extremeOfEquals();
        crossingsBounds();
        crossingsAtTheLevel();
        crossingsAtTheLastFrame();
        DUE.finish();
    }

    private static Run run(String sentence) {
        return new Run(DUE, sentence);
    }

    /** A key at each of the frames 10 to 13, so that no value between keys is needed: 64, 128, 256 and 512 parts. */
    private static Run steps(String sentence, int before, int after) {
        Run run = run(sentence);
        run.first("setKey(0, 10, 1)", "setKey(0, 11, 2)", "setKey(0, 12, 4)", "setKey(0, 13, 8)");
        return run.first("setExtrapolation(0, " + before + ", " + after + ")");
    }

    private static Run valuesAre(Run run, int... framesAndValues) {
        for (int i = 0; i < framesAndValues.length; i += 2) {
            run.is("value(0, " + framesAndValues[i] + ")", framesAndValues[i + 1]);
        }
        return run;
    }

    /** In the middle of two equal keys two frames apart there is a quarter of the first one's out slope. */
    private static void valueOfAHalf() {
        int[] slopes = {1, 2, 3, 6, -1, -2, -3, -6, -7};
        int[] due = {0, 1, 1, 2, 0, 0, -1, -1, -2};
        Run run = run("round(n, d^3), of two the greater one");
        run.first("setKey(0, 0, 0)", "setKey(0, 2, 0)");
        for (int i = 0; i < slopes.length; i++) {
            run.first("setSlopes(0, 0, 0, " + slopes[i] + ")").is("value(0, 1)", due[i]);
        }
    }

    private static void atTheKeys() {
        for (int kind = 0; kind <= 4; kind++) {
            Run run = steps("the value at the frame of a key is 64 times its value", kind, kind);
            valuesAre(run, 10, 64, 11, 128, 12, 256, 13, 512);
            run.first("setKey(0, 0, -999)", "setKey(0, 480, 999)");
            valuesAre(run, 0, -63936, 10, 64, 480, 63936);
        }
    }

    private static void holdUpToTheNextKey() {
        Run run = run("it is p if the first key has the mode HOLD");
        run.first("setKey(0, 5, 3)", "setKey(0, 15, -2)", "setKey(0, 25, 7)", "setMode(0, 5, 6)");
        valuesAre(run, 5, 192, 6, 192, 14, 192, 15, -128);
        run.first("setMode(0, 5, 1)", "setMode(0, 15, 6)", "setMode(0, 25, 6)");
        // 192 * 972 + (-128) * 28, in thousandths; and the other end of the way
        valuesAre(run, 6, 183, 14, -119, 15, -128, 16, -128, 24, -128, 25, 448, 26, 448);
    }

    private static void onlyOneKeyIsConstant() {
        for (int kind = 0; kind <= 4; kind++) {
            Run run = run("with only one key the extrapolation is CONSTANT in any case");
            run.first("setKey(0, 7, -3)", "setSlopes(0, 7, 100, 200)");
            run.first("setExtrapolation(0, " + kind + ", " + kind + ")");
            valuesAre(run, 0, -192, 6, -192, 7, -192, 8, -192, 960, -192);
            run.isDouble("units(0, 960)", -3.0).isDouble("mean(0, 0, 960)", -3.0).is("extreme(0, 5, 960, true)", 5);
            run.is("extreme(0, 5, 960, false)", 5).is("crossings(0, 0, 960, -3)", 0).is("crossings(0, 0, 960, -2)", 0);
            run.first("moveKey(0, 7, 0)");
            valuesAre(run, 0, -192, 1, -192, 960, -192);
            run.first("moveKey(0, 0, 480)");
            valuesAre(run, 0, -192, 479, -192, 480, -192, 481, -192, 960, -192);
        }
    }

    private static void constantBounds() {
        valuesAre(steps("CONSTANT: the value at the nearest key", 0, 0), 0, 64, 9, 64, 10, 64, 13, 512, 14, 512, 960, 512);
    }

    private static void slopeBounds() {
        Run run = steps("SLOPE: in slope times (f - a), out slope times (f - b)", 1, 1);
        run.first("setSlopes(0, 10, -3, 5)", "setSlopes(0, 13, 7, 9)");
        valuesAre(run, 0, 94, 9, 67, 10, 64, 13, 512, 14, 521, 960, 9035);
        run.first("setSlopes(0, 10, 9999, 0)", "setSlopes(0, 13, 0, -9999)");
        valuesAre(run, 0, -99926, 9, -9935, 14, -9487, 960, -9468541);
    }

    /** LINEAR and AUTO go on with the secant of the end; the other modes have the slope 0 there. */
    private static void slopeOfEachMode() {
        for (int mode = 1; mode <= 6; mode++) {
            boolean sloping = mode == 2 || mode == 3;
            Run run = steps("SLOPE: the slope of the end by its mode", 1, 1);
            run.first("setMode(0, 10, " + mode + ")", "setMode(0, 13, " + mode + ")");
            valuesAre(run, 9, sloping ? 0 : 64, 14, sloping ? 768 : 512);
        }
    }

    private static void cycleBounds() {
        Run run = steps("CYCLE: the result of modulo is from 0 to L - 1", 2, 2);
        valuesAre(run, 0, 256, 6, 256, 7, 64, 8, 128, 9, 256, 10, 64);
        valuesAre(run, 13, 512, 14, 128, 15, 256, 16, 64, 17, 128, 958, 64, 959, 128, 960, 256);
    }

    private static void bounceBounds() {
        Run run = steps("BOUNCE: a + m if m is at most L, and otherwise a + 2 * L - m", 3, 3);
        valuesAre(run, 0, 256, 4, 64, 5, 128, 6, 256, 7, 512, 8, 256, 9, 128, 10, 64);
        valuesAre(run, 13, 512, 14, 256, 15, 128, 16, 64, 17, 128, 18, 256, 19, 512, 20, 256, 955, 512, 960, 256);
    }

    private static void offsetBounds() {
        Run run = steps("OFFSET: k is the greatest integer that is at most (f - a) / L", 4, 4);
        valuesAre(run, 0, -1536, 6, -640, 7, -384, 8, -320, 9, -192, 10, 64);
        valuesAre(run, 13, 512, 14, 576, 15, 704, 16, 960, 17, 1024, 960, 141824);
    }

    private static void lengthOfOneFrame() {
        Run run = run("extrapolations with L = 1");
        run.first("setKey(0, 10, 1)", "setKey(0, 11, 3)", "setExtrapolation(0, 2, 2)");
        valuesAre(run, 0, 64, 9, 64, 10, 64, 11, 192, 12, 64, 960, 64);
        run.first("setExtrapolation(0, 3, 3)");
        valuesAre(run, 0, 64, 8, 64, 9, 192, 10, 64, 11, 192, 12, 64, 13, 192, 960, 64);
        run.first("setExtrapolation(0, 4, 4)");
        valuesAre(run, 0, 64 - 10 * 128, 9, -64, 12, 320, 13, 448, 960, 64 + 950 * 128);
        run.first("setExtrapolation(0, 1, 1)");
        valuesAre(run, 0, 64 - 10 * 128, 9, -64, 12, 320, 960, 192 + 949 * 128);
    }

    /** A straight way of 64 parts a frame over all frames that keys can have. */
    private static void lengthOf480Frames() {
        Run run = run("extrapolations with L = 480");
        run.first("setKey(0, 0, 0)", "setKey(0, 480, 480)", "setExtrapolation(0, 0, 2)");
        valuesAre(run, 480, 30720, 481, 64, 959, 30656, 960, 0);
        run.first("setExtrapolation(0, 0, 3)");
        valuesAre(run, 480, 30720, 481, 30656, 959, 64, 960, 0);
        run.first("setExtrapolation(0, 0, 4)");
        valuesAre(run, 480, 30720, 481, 30784, 959, 61376, 960, 61440);
        run.first("setExtrapolation(0, 0, 1)");
        valuesAre(run, 480, 30720, 481, 30784, 959, 61376, 960, 61440);
        run.first("setExtrapolation(0, 0, 0)");
        valuesAre(run, 480, 30720, 481, 30720, 960, 30720);
    }

    private static void lastTwoFrames() {
        Run run = run("extrapolations before frame 479");
        run.first("setKey(0, 479, 1)", "setKey(0, 480, 2)", "setExtrapolation(0, 2, 2)");
        valuesAre(run, 0, 64, 478, 64, 481, 64);
        run.first("setExtrapolation(0, 3, 3)");
        valuesAre(run, 0, 128, 1, 64, 478, 128, 481, 64);
        run.first("setExtrapolation(0, 4, 4)");
        valuesAre(run, 0, 64 - 479 * 64, 478, 0, 481, 192);
        run.first("setExtrapolation(0, 1, 1)");
        valuesAre(run, 0, 64 - 479 * 64, 478, 0, 481, 192);
    }

    private static void sidesAreApart() {
        int[] before = {64, 0, 256, 128, -192};
        int[] after = {512, 768, 128, 256, 576};
        for (int i = 0; i <= 4; i++) {
            for (int j = 0; j <= 4; j++) {
                Run run = steps("the extrapolation of the curve on this side", i, j);
                valuesAre(run, 9, before[i], 14, after[j]);
            }
        }
    }

    private static void greatestValues() {
        Run run = run("the greatest and the least value that a curve can have");
        run.first("setKey(0, 0, -999)", "setKey(0, 1, 999)", "setExtrapolation(0, 0, 4)");
        valuesAre(run, 960, -63936 + 960 * 127872);
        run.first("setExtrapolation(0, 0, 1)");
        valuesAre(run, 960, 63936 + 959 * 127872);
        run.first("setKey(0, 0, 999)", "setKey(0, 1, -999)");
        valuesAre(run, 960, -63936 - 959 * 127872);
        run.first("setExtrapolation(0, 0, 4)");
        valuesAre(run, 960, 63936 - 960 * 127872);
        Run before = run("the greatest value before the first key");
        before.first("setKey(0, 479, 999)", "setKey(0, 480, -999)", "setExtrapolation(0, 1, 0)");
        valuesAre(before, 0, 63936 + 479 * 127872);
        Run wide = run("the greatest value between two keys");
        wide.first("setKey(0, 0, 999)", "setKey(0, 480, 999)", "setSlopes(0, 0, 0, 9999)", "setSlopes(0, 480, -9999, 0)");
        valuesAre(wide, 240, 63936 + 480 * 9999 / 4);
        wide.first("setKey(0, 0, -999)", "setKey(0, 480, -999)", "setSlopes(0, 0, 0, -9999)", "setSlopes(0, 480, 9999, 0)");
        valuesAre(wide, 240, -63936 - 480 * 9999 / 4);
    }

    private static void valueFrames() {
        Run run = steps("value: frame 0 to 960; NONE if the curve has no keys", 0, 0);
        run.allows("value(0, 0)", "value(0, 960)");
        run.refuses(BAD_VALUE, "value(0, -1)", "value(0, 961)", "value(0, MIN)", "value(0, MAX)", "value(1, -1)", "value(1, 961)");
        run.refuses(NONE, "value(1, 0)", "value(1, 960)").refuses(BAD_INDEX, "value(4, 961)", "value(-1, -1)");
    }

    private static void unitsBounds() {
        Run run = steps("units: 0 if there is no such curve, the frame is out of range, or there are no keys", 0, 1);
        run.isDouble("units(0, 0)", 1.0).isDouble("units(0, 12)", 4.0).isDouble("units(0, 960)", 8.0 + 4 * 947);
        for (String call : new String[] {"units(0, -1)", "units(0, 961)", "units(0, MIN)", "units(0, MAX)", "units(1, 0)",
            "units(1, 960)", "units(4, 0)", "units(-1, 0)"}) {
            run.isDouble(call, 0.0).refuses(0, call);
        }
        run.first("setKey(3, 0, 0)", "setKey(3, 2, 0)", "setSlopes(3, 0, 0, -4)").isDouble("units(3, 1)", -0.015625);
        run.isDouble("units(3, 0)", 0.0);
        Run great = run("units: the float to which the value is cast, divided by 64.0f");
        great.first("setKey(0, 0, -999)", "setKey(0, 3, 998)", "setExtrapolation(0, 0, 1)");
        great.is("value(0, 960)", 40834943).isDouble("units(0, 960)", 638046.0);
    }

    private static void meanBounds() {
        Run run = steps("mean: 0 if there is no such curve or range, or the curve has no keys", 0, 0);
        run.isDouble("mean(0, 0, 0)", 1.0).isDouble("mean(0, 960, 960)", 8.0).isDouble("mean(0, 12, 13)", 6.0);
        run.isDouble("mean(0, 0, 960)", (11 + 2 + 4 + 8 * 948) * 64 / (64.0 * 961));
        for (String call : new String[] {"mean(0, 13, 12)", "mean(0, -1, 12)", "mean(0, 12, 961)", "mean(0, 961, 961)",
            "mean(0, -1, -1)", "mean(0, MIN, MAX)", "mean(0, MAX, MIN)", "mean(0, 0, MAX)", "mean(0, MIN, 0)",
            "mean(1, 0, 960)", "mean(4, 0, 0)", "mean(-1, 0, 0)"}) {
            run.isDouble(call, 0.0).refuses(0, call);
        }
        Run great = run("mean: the sum as a double");
        great.first("setKey(0, 0, -999)", "setKey(0, 1, 999)", "setExtrapolation(0, 0, 1)");
        great.isDouble("mean(0, 0, 960)", (127872.0 * (959 * 960 / 2) + 959 * 63936) / (64.0 * 961));
    }

    /** Curve 0 has keys here, curve 1 has none. */
    private static void rangeIsRefused(Run run, String call) {
        run.refuses(BAD_VALUE, String.format(call, "0, 5, 4"), String.format(call, "0, -1, 4"), String.format(call, "0, 0, 961"),
                String.format(call, "0, 961, 961"), String.format(call, "0, -1, -1"), String.format(call, "0, MIN, MAX"),
                String.format(call, "0, MAX, MIN"), String.format(call, "0, 0, MAX"), String.format(call, "0, MIN, 0"),
                String.format(call, "1, 5, 4"), String.format(call, "1, -1, 4"), String.format(call, "1, 0, 961"));
        run.refuses(NONE, String.format(call, "1, 0, 0"), String.format(call, "1, 0, 960"), String.format(call, "1, 960, 960"));
        run.refuses(BAD_INDEX, String.format(call, "4, 5, 4"), String.format(call, "-1, 0, 961"));
        run.allows(String.format(call, "0, 0, 0"), String.format(call, "0, 0, 960"), String.format(call, "0, 960, 960"));
    }

    private static void extremeBounds() {
        Run run = steps("extreme: from 0 to 960, to from to 960", 3, 3);
        rangeIsRefused(run, "extreme(%s, true)");
        rangeIsRefused(run, "extreme(%s, false)");
        run.is("extreme(0, 0, 0, true)", 0).is("extreme(0, 960, 960, false)", 960).is("extreme(0, 12, 12, true)", 12);
        run.is("extreme(0, 959, 960, true)", 960).is("extreme(0, 959, 960, false)", 959);
        run.is("extreme(0, 0, 1, true)", 1).is("extreme(0, 0, 1, false)", 0);
    }

    private static void extremeOfEquals() {
        Run run = steps("extreme: the first frame of the range", 3, 3);
        run.is("extreme(0, 0, 960, true)", 1).is("extreme(0, 2, 960, true)", 7).is("extreme(0, 8, 960, true)", 13);
        run.is("extreme(0, 13, 960, true)", 13).is("extreme(0, 14, 960, true)", 19).is("extreme(0, 956, 960, true)", 956);
        run.is("extreme(0, 0, 960, false)", 4).is("extreme(0, 5, 960, false)", 10).is("extreme(0, 956, 960, false)", 958);
        Run flat = steps("extreme: the first frame of a curve that is constant there", 0, 0);
        flat.is("extreme(0, 0, 960, false)", 0).is("extreme(0, 13, 960, true)", 13).is("extreme(0, 14, 960, false)", 14);
    }

    private static void crossingsBounds() {
        Run run = steps("crossings: a range, and a level of -999 to 999", 0, 1);
        rangeIsRefused(run, "crossings(%s, 0)");
        run.refuses(BAD_VALUE, "crossings(0, 0, 960, -1000)", "crossings(0, 0, 960, 1000)", "crossings(0, 0, 960, MIN)",
                "crossings(0, 0, 960, MAX)", "crossings(1, 0, 960, 1000)");
        run.refuses(BAD_INDEX, "crossings(4, 0, 960, 1000)").refuses(NONE, "crossings(1, 0, 960, 999)");
        // 8 units and 4 more for each frame behind 13: 996 at 260, 1000 at 261
        run.is("crossings(0, 0, 960, 999)", 1).is("crossings(0, 260, 261, 999)", 1).is("crossings(0, 261, 960, 999)", 0);
        run.is("crossings(0, 0, 960, -999)", 0);
        Run falling = run("crossings: the level -999");
        falling.first("setKey(0, 0, 0)", "setKey(0, 9, -999)", "setExtrapolation(0, 0, 1)");
        falling.is("crossings(0, 9, 10, -999)", 1).is("crossings(0, 0, 9, -999)", 0).is("crossings(0, 10, 960, -999)", 0);
    }

    private static void crossingsAtTheLevel() {
        Run run = steps("crossings: below the level and at the next frame not below it, or the other way round", 3, 3);
        run.is("crossings(0, 10, 13, 1)", 0).is("crossings(0, 10, 13, 2)", 1).is("crossings(0, 10, 13, 3)", 1);
        run.is("crossings(0, 10, 13, 8)", 1).is("crossings(0, 10, 13, 9)", 0);
        run.is("crossings(0, 13, 16, 8)", 1).is("crossings(0, 13, 16, 2)", 1).is("crossings(0, 13, 16, 1)", 0);
        run.is("crossings(0, 10, 16, 8)", 2).is("crossings(0, 10, 16, 9)", 0);
    }

    private static void crossingsAtTheLastFrame() {
        Run run = steps("crossings: the frames of a range, except its last one", 3, 3);
        run.is("crossings(0, 10, 10, 2)", 0).is("crossings(0, 10, 11, 2)", 1).is("crossings(0, 9, 10, 2)", 1);
        run.is("crossings(0, 11, 12, 2)", 0).is("crossings(0, 0, 1, 8)", 1).is("crossings(0, 0, 0, 8)", 0);
        run.is("crossings(0, 959, 960, 3)", 1).is("crossings(0, 960, 960, 3)", 0).is("crossings(0, 958, 959, 3)", 0);
    }
}
