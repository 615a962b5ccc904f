/** Each sentence of "Curves" and of promises 1 to 14 that names a boundary case: at the bound, beyond it, and refused. */
public final class BoundsOfCurvesTest {
    private static final Due DUE = new Due("BoundsOfCurvesTest");
    private static final int BAD_INDEX = Run.BAD_INDEX;
    private static final int BAD_VALUE = Run.BAD_VALUE;
    private static final int FULL = Run.FULL;
    private static final int NOT_POSSIBLE = Run.NOT_POSSIBLE;
    private static final int NONE = Run.NONE;

    /** Every call that names a curve and reports errors; the place of the curve is %s. */
    private static final String[] OF_A_CURVE = {"setKey(%s, 0, 0)", "removeKey(%s, 10)", "moveKey(%s, 10, 11)",
        "setMode(%s, 10, 1)", "setSlopes(%s, 10, 1, 1)", "split(%s, 15)", "clear(%s)", "setExtrapolation(%s, 1, 1)",
        "keys(%s)", "frameOf(%s, 0)", "valueOf(%s, 0)", "modeOf(%s, 0)", "slope(%s, 0, true)", "slope(%s, 0, false)",
        "value(%s, 0)", "extreme(%s, 0, 9, true)", "extreme(%s, 0, 9, false)", "crossings(%s, 0, 9, 0)", "retime(%s)",
        "bake(%s, 0, 9, 9)", "bakeFormula(%s, 0, 9, 9)", "polyline(%s, 0, 9, 0, -1)", "polyline(%s, 0, 9, 0, 0)",
        "decimate(%s, 0)", "readCurve(%s)"};

    public static void main(String[] args) {
        newObject();
        curvesAreZeroToThree();
        modesAtEachPlace();
        modesOfTwoKeys();
        secantsAreRounded();
        autoIsRounded();
        clampedIsStrictlyBetween();
        monotoneAtThreeTimes();
        monotoneOfFlatOrTurningSecants();
        onlyOneKey();
        orderedByFrames();
        setKeyBounds();
        atMost24Keys();
        removeKeyBounds();
        moveKeyBounds();
        moveKeyPastOthers();
        setModeBounds();
        setModeKeepsOrLimitsSlopes();
        setSlopesBounds();
        splitBounds();
        splitOfFewKeys();
        splitOfAFullCurve();
        splitBesideHold();
        splitLimitsTheValue();
        splitLimitsTheSlopes();
        splitBetweenItsNeighborFrames();
        splitUsesTheOldValues();
        clearOfEmptyAndFull();
        extrapolationBounds();
        keyNumbers();
        DUE.finish();
    }

    private static Run run(String sentence) {
        return new Run(DUE, sentence);
    }

    /** A curve with keys at 0, step, 2 * step and so on, and the values 1, 2, 3 and so on. */
    private static Run withKeys(String sentence, int curve, int count, int step) {
        Run run = run(sentence);
        for (int i = 0; i < count; i++) {
            run.first("setKey(" + curve + ", " + step * i + ", " + (i + 1) + ")");
        }
        return run;
    }

    private static Run slopesAre(Run run, int curve, int key, int in, int out) {
        run.is("slope(" + curve + ", " + key + ", false)", in);
        return run.is("slope(" + curve + ", " + key + ", true)", out);
    }

    private static Run keyIs(Run run, int curve, int key, int frame, int value, int mode) {
        run.is("frameOf(" + curve + ", " + key + ")", frame);
        run.is("valueOf(" + curve + ", " + key + ")", value);
        return run.is("modeOf(" + curve + ", " + key + ")", mode);
    }

    private static void newObject() {
        Run run = run("four curves without keys, without map points, with the formula 0 and an empty text");
        for (int c = 0; c < 4; c++) {
            run.is("keys(" + c + ")", 0);
            run.refuses(BAD_INDEX, "frameOf(" + c + ", 0)", "valueOf(" + c + ", 0)", "modeOf(" + c + ", 0)",
                    "slope(" + c + ", 0, false)", "removeKey(" + c + ", 0)");
            run.refuses(NONE, "value(" + c + ", 0)", "value(" + c + ", 960)");
        }
        run.is("mapped(0)", 0).is("mapped(480)", 480).is("mix(0)", 0).is("mix(960)", 0);
        run.is("faultPosition(true)", 0).is("faultPosition(false)", 0).is("clearText()", 0);
        run.refuses(NONE, "undo()");
        run.is("clearMap()", 0).is("setExtrapolation(0, 1, 1)", 0).is("setExtrapolation(3, 1, 1)", 0);
    }

    private static void curvesAreZeroToThree() {
        Run run = run("the curves 0 to 3");
        for (int c = 0; c < 4; c++) {
            run.first("setKey(" + c + ", 10, 1)", "setKey(" + c + ", 20, 2)");
        }
        run.type("1:1;");
        for (String call : OF_A_CURVE) {
            run.allows(String.format(call, 0), String.format(call, 3));
            run.refuses(BAD_INDEX, String.format(call, -1), String.format(call, 4), String.format(call, "MIN"),
                    String.format(call, "MAX"));
        }
        for (String c : new String[] {"-1", "4", "MIN", "MAX"}) {
            run.isDouble("units(" + c + ", 10)", 0).isDouble("mean(" + c + ", 10, 20)", 0);
        }
        run.isDouble("units(0, 10)", 1).isDouble("units(3, 10)", 1);
        run.isDouble("mean(0, 10, 10)", 1).isDouble("mean(3, 10, 10)", 1);
    }

    /** Keys 0, 10 and 30 apart in value; the secants are 64 and 128, and from the first to the last it is 96. */
    private static void modesAtEachPlace() {
        Run run = run("slopes at the first, an inner and the last key");
        run.first("setKey(2, 100, 0)", "setKey(2, 110, 10)", "setKey(2, 120, 30)");
        int[][] due = {{}, {0, 0, 0, 0, 0, 0}, {64, 64, 64, 128, 128, 128}, {64, 64, 96, 96, 128, 128},
            {0, 0, 96, 96, 0, 0}, {0, 0, 96, 96, 0, 0}, {0, 0, 0, 0, 0, 0}};
        for (int mode = 1; mode <= 6; mode++) {
            for (int key = 0; key < 3; key++) {
                run.first("setMode(2, " + (100 + 10 * key) + ", " + mode + ")");
            }
            for (int key = 0; key < 3; key++) {
                slopesAre(run, 2, key, due[mode][2 * key], due[mode][2 * key + 1]);
            }
        }
    }

    private static void modesOfTwoKeys() {
        Run run = run("at the first and at the last key both are the one secant that exists, or 0");
        run.first("setKey(1, 0, 999)", "setKey(1, 480, -999)");
        int[] due = {0, 0, -266, -266, 0, 0, 0};
        for (int mode = 1; mode <= 6; mode++) {
            run.first("setMode(1, 0, " + mode + ")", "setMode(1, 480, " + mode + ")");
            slopesAre(run, 1, 0, due[mode], due[mode]);
            slopesAre(run, 1, 1, due[mode], due[mode]);
        }
    }

    private static void secantsAreRounded() {
        Run run = run("round(n, d) is the nearest integer, of two the greater one");
        run.first("setKey(0, 0, 0)", "setKey(0, 128, 1)");
        slopesAre(run, 0, 0, 1, 1);
        run.first("setKey(0, 128, -1)");
        slopesAre(run, 0, 0, 0, 0);
        run.first("moveKey(0, 128, 127)");
        slopesAre(run, 0, 0, -1, -1);
        run.first("setKey(0, 127, 1)", "moveKey(0, 127, 129)");
        slopesAre(run, 0, 0, 0, 0);
        run.first("moveKey(0, 129, 1)", "setKey(0, 0, -999)", "setKey(0, 1, 999)");
        slopesAre(run, 0, 0, 127872, 127872);
        run.first("setKey(0, 0, 999)", "setKey(0, 1, -999)");
        slopesAre(run, 0, 1, -127872, -127872);
    }

    /** From the key before to the next one there are 128 frames, so that 1 is a half. */
    private static void autoIsRounded() {
        int[] values = {1, -1, 3, -3, 2, -2};
        int[] due = {1, 0, 2, -1, 1, -1};
        for (int i = 0; i < values.length; i++) {
            Run run = run("AUTO: round(64 * (w - v), b - a), of two the greater one");
            run.first("setKey(0, 0, 0)", "setKey(0, 50, 900)", "setKey(0, 128, " + values[i] + ")");
            slopesAre(run, 0, 1, due[i], due[i]);
        }
    }

    private static void clampedIsStrictlyBetween() {
        Run run = run("between if it is greater than one of them and less than the other one");
        run.first("setKey(0, 0, 10)", "setKey(0, 10, 10)", "setKey(0, 20, 20)", "setMode(0, 10, 4)");
        slopesAre(run, 0, 1, 0, 0);
        run.first("setKey(0, 10, 11)");
        slopesAre(run, 0, 1, 32, 32);
        run.first("setKey(0, 10, 19)");
        slopesAre(run, 0, 1, 32, 32);
        run.first("setKey(0, 10, 20)");
        slopesAre(run, 0, 1, 0, 0);
        run.first("setKey(0, 10, 21)");
        slopesAre(run, 0, 1, 0, 0);
        run.first("setKey(0, 10, 9)");
        slopesAre(run, 0, 1, 0, 0);
        run.first("setKey(0, 0, 20)", "setKey(0, 20, 10)", "setKey(0, 10, 10)");
        slopesAre(run, 0, 1, 0, 0);
        run.first("setKey(0, 10, 11)");
        slopesAre(run, 0, 1, -32, -32);
        run.first("setKey(0, 10, 19)");
        slopesAre(run, 0, 1, -32, -32);
        run.first("setKey(0, 10, 20)");
        slopesAre(run, 0, 1, 0, 0);
        run.first("setKey(0, 0, 11)", "setKey(0, 20, 11)", "setKey(0, 10, 11)");
        slopesAre(run, 0, 1, 0, 0);
    }

    /** One secant is 1 or -1; the slope by AUTO is 2, 3, 4 and 5 times that. */
    private static void monotoneAtThreeTimes() {
        int[] values = {3, 4, 5, 6};
        int[] due = {2, 3, 3, 3};
        for (int i = 0; i < 4; i++) {
            for (int sign = -1; sign <= 1; sign += 2) {
                Run run = run("greater than three times that of a secant, reduced to three times that of the smaller one");
                run.first("setKey(0, 0, 0)", "setKey(0, 64, " + sign + ")", "setKey(0, 80, " + sign * values[i] + ")");
                run.first("setMode(0, 64, 5)");
                slopesAre(run, 0, 1, sign * due[i], sign * due[i]);
                run.first("setKey(0, 16, " + sign * (values[i] - 1) + ")", "removeKey(0, 64)");
                run.first("setKey(0, 80, " + sign * values[i] + ")", "setMode(0, 16, 5)");
                slopesAre(run, 0, 1, sign * due[i], sign * due[i]);
            }
        }
    }

    private static void monotoneOfFlatOrTurningSecants() {
        Run run = run("the two secants do not have the same sign or one of them is 0");
        run.first("setKey(0, 0, 0)", "setKey(0, 10, 0)", "setKey(0, 20, 50)", "setMode(0, 10, 5)");
        slopesAre(run, 0, 1, 0, 0);
        run.first("setKey(0, 10, 1)");
        slopesAre(run, 0, 1, 18, 18);
        run.first("setKey(0, 10, 49)");
        slopesAre(run, 0, 1, 18, 18);
        run.first("setKey(0, 10, 50)");
        slopesAre(run, 0, 1, 0, 0);
        run.first("setKey(0, 10, 51)");
        slopesAre(run, 0, 1, 0, 0);
        run.first("setKey(0, 10, -1)");
        slopesAre(run, 0, 1, 0, 0);
        run.first("setKey(0, 20, 0)", "setKey(0, 10, 0)");
        slopesAre(run, 0, 1, 0, 0);
        Run small = run("one of the secants is rounded to 0");
        small.first("setKey(0, 0, 0)", "setKey(0, 129, 1)", "setKey(0, 130, 2)", "setMode(0, 129, 5)");
        slopesAre(small, 0, 1, 0, 0);
        small.first("moveKey(0, 129, 128)");
        slopesAre(small, 0, 1, 1, 1);
    }

    private static void onlyOneKey() {
        Run run = run("with only one key all slopes are 0, except with the mode FREE");
        run.first("setKey(3, 7, 999)", "setSlopes(3, 7, 9999, -9999)");
        slopesAre(run, 3, 0, 9999, -9999);
        for (int mode = 1; mode <= 6; mode++) {
            run.first("setMode(3, 7, " + mode + ")");
            slopesAre(run, 3, 0, 0, 0);
        }
        run.first("setMode(3, 7, 0)");
        slopesAre(run, 3, 0, 0, 0);
        run.first("setMode(3, 7, 2)", "setKey(3, 8, 998)");
        slopesAre(run, 3, 0, -64, -64);
        run.first("removeKey(3, 7)", "setMode(3, 8, 2)");
        slopesAre(run, 3, 0, 0, 0);
        run.first("setKey(3, 480, -5)", "removeKey(3, 480)");
        for (int mode = 1; mode <= 6; mode++) {
            run.first("setMode(3, 8, " + mode + ")");
            slopesAre(run, 3, 0, 0, 0);
        }
    }

    private static void orderedByFrames() {
        Run run = run("ordered by their frames, and numbered from 0 in this order");
        run.is("setKey(0, 479, 4)", 1).is("setKey(0, 1, 2)", 2).is("setKey(0, 480, 5)", 3).is("setKey(0, 0, 1)", 4);
        run.is("setKey(0, 240, 3)", 5);
        int[] frames = {0, 1, 240, 479, 480};
        for (int key = 0; key < 5; key++) {
            keyIs(run, 0, key, frames[key], key + 1, 3);
        }
    }

    private static void setKeyBounds() {
        Run run = run("setKey: frame 0 to 480, value -999 to 999");
        run.refuses(BAD_VALUE, "setKey(0, -1, 0)", "setKey(0, 481, 0)", "setKey(0, MIN, 0)", "setKey(0, MAX, 0)");
        run.refuses(BAD_VALUE, "setKey(0, 0, -1000)", "setKey(0, 0, 1000)", "setKey(0, 0, MIN)", "setKey(0, 0, MAX)");
        run.refuses(BAD_INDEX, "setKey(4, 481, 0)", "setKey(-1, 0, 1000)");
        run.is("setKey(0, 0, -999)", 1).is("setKey(0, 480, 999)", 2);
        keyIs(run, 0, 0, 0, -999, 3);
        keyIs(run, 0, 1, 480, 999, 3);
        run.is("setKey(0, 0, 999)", 2).is("setKey(0, 480, -999)", 2);
        keyIs(run, 0, 0, 0, 999, 3);
        keyIs(run, 0, 1, 480, -999, 3);
        run.refuses(BAD_VALUE, "setKey(0, 0, 1000)", "setKey(0, 480, -1000)");
    }

    private static void atMost24Keys() {
        Run run = withKeys("setKey: FULL if it would have more than 24", 1, 23, 20);
        run.is("keys(1)", 23).is("setKey(1, 470, 5)", 24);
        run.refuses(FULL, "setKey(1, 480, 0)", "setKey(1, 1, 0)", "setKey(1, 471, 999)");
        run.refuses(BAD_VALUE, "setKey(1, 481, 0)", "setKey(1, 1, 1000)");
        run.is("setKey(1, 470, 6)", 24).is("setKey(1, 0, 7)", 24).is("setKey(1, 220, 8)", 24);
        keyIs(run, 1, 23, 470, 6, 3);
        keyIs(run, 1, 0, 0, 7, 3);
        keyIs(run, 1, 11, 220, 8, 3);
        run.is("setKey(0, 1, 0)", 1).is("setKey(2, 1, 0)", 1);
        run.is("removeKey(1, 220)", 23).is("setKey(1, 221, 1)", 24).is("undo()", 9);
    }

    private static void removeKeyBounds() {
        Run run = run("removeKey: BAD_INDEX if there is no key at the frame");
        run.refuses(BAD_INDEX, "removeKey(0, 0)");
        run.first("setKey(0, 0, 1)", "setKey(0, 480, 2)", "setKey(0, 7, 3)");
        run.refuses(BAD_INDEX, "removeKey(0, -1)", "removeKey(0, 1)", "removeKey(0, 6)", "removeKey(0, 8)",
                "removeKey(0, 479)", "removeKey(0, 481)", "removeKey(0, MIN)", "removeKey(0, MAX)", "removeKey(1, 7)");
        run.is("removeKey(0, 480)", 2).is("removeKey(0, 0)", 1).is("removeKey(0, 7)", 0).is("keys(0)", 0);
        run.refuses(BAD_INDEX, "removeKey(0, 7)");
        Run full = withKeys("removeKey of a full curve", 0, 24, 20);
        full.is("removeKey(0, 0)", 23).is("removeKey(0, 460)", 22);
        keyIs(full, 0, 0, 20, 2, 3);
        keyIs(full, 0, 21, 440, 23, 3).refuses(BAD_INDEX, "frameOf(0, 22)");
    }

    private static void moveKeyBounds() {
        Run run = run("moveKey: to 0 to 480, NOT_POSSIBLE if another key is at to");
        run.refuses(BAD_INDEX, "moveKey(0, 0, 0)");
        run.first("setKey(0, 1, 1)", "setKey(0, 100, 2)", "setKey(0, 479, 3)");
        run.refuses(BAD_INDEX, "moveKey(0, 0, 5)", "moveKey(0, 2, 5)", "moveKey(0, 480, 481)", "moveKey(0, 99, 100)",
                "moveKey(0, MIN, 5)", "moveKey(0, MAX, 5)", "moveKey(1, 100, 5)", "moveKey(4, 100, 481)");
        run.refuses(BAD_VALUE, "moveKey(0, 100, -1)", "moveKey(0, 100, 481)", "moveKey(0, 1, MIN)", "moveKey(0, 1, MAX)");
        run.refuses(NOT_POSSIBLE, "moveKey(0, 1, 100)", "moveKey(0, 1, 479)", "moveKey(0, 100, 1)", "moveKey(0, 479, 1)");
        run.is("moveKey(0, 1, 0)", 0).is("moveKey(0, 479, 480)", 2);
        keyIs(run, 0, 0, 0, 1, 3);
        keyIs(run, 0, 2, 480, 3, 3);
        run.is("moveKey(0, 0, 0)", 0).is("moveKey(0, 480, 480)", 2).is("moveKey(0, 100, 100)", 1).is("undo()", 7);
    }

    private static void moveKeyPastOthers() {
        Run run = run("moveKey: the number that the key has then");
        run.first("setKey(0, 10, 1)", "setKey(0, 20, 2)", "setKey(0, 30, 3)");
        run.is("moveKey(0, 10, 19)", 0).is("moveKey(0, 19, 21)", 1).is("moveKey(0, 21, 29)", 1).is("moveKey(0, 29, 31)", 2);
        run.is("moveKey(0, 31, 480)", 2).is("moveKey(0, 480, 0)", 0).is("moveKey(0, 30, 1)", 1);
        keyIs(run, 0, 0, 0, 1, 3);
        keyIs(run, 0, 1, 1, 3, 3);
        keyIs(run, 0, 2, 20, 2, 3);
        Run full = withKeys("moveKey in a full curve", 0, 24, 20);
        full.first("setSlopes(0, 0, 5, 6)").is("moveKey(0, 0, 480)", 23).is("moveKey(0, 240, 1)", 0);
        slopesAre(full, 0, 23, 5, 6).is("keys(0)", 24);
        full.refuses(NOT_POSSIBLE, "moveKey(0, 480, 20)").refuses(FULL, "setKey(0, 0, 1)");
    }

    private static void setModeBounds() {
        Run run = run("setMode: FREE to HOLD");
        run.refuses(BAD_INDEX, "setMode(0, 5, 1)");
        run.first("setKey(0, 5, 1)");
        run.refuses(BAD_VALUE, "setMode(0, 5, -1)", "setMode(0, 5, 7)", "setMode(0, 5, MIN)", "setMode(0, 5, MAX)");
        run.refuses(BAD_INDEX, "setMode(0, 4, 1)", "setMode(0, 6, 7)", "setMode(4, 5, 7)", "setMode(0, MIN, 1)",
                "setMode(0, MAX, 1)", "setMode(1, 5, 1)");
        run.is("setMode(0, 5, 0)", 3).is("setMode(0, 5, 6)", 0).is("setMode(0, 5, 6)", 6).is("setMode(0, 5, 0)", 6);
        run.is("modeOf(0, 0)", 0).is("undo()", 4).is("modeOf(0, 0)", 6);
    }

    /** Slopes of 9998 are kept, and 10000 is one too much; no keys have a secant of 9999. */
    private static void setModeKeepsOrLimitsSlopes() {
        Run run = run("its slopes become what they are (but at least -9999 and at most 9999)");
        run.first("setKey(0, 0, -703)", "setKey(0, 9, 703)", "setKey(0, 13, 78)", "setMode(0, 9, 2)");
        slopesAre(run, 0, 1, 9998, -10000);
        run.is("setMode(0, 9, 0)", 2);
        slopesAre(run, 0, 1, 9998, -9999);
        run.first("setMode(0, 9, 2)", "setKey(0, 0, 703)", "setKey(0, 9, -703)", "setKey(0, 13, -78)");
        slopesAre(run, 0, 1, -9998, 10000);
        run.is("setMode(0, 9, 0)", 2);
        slopesAre(run, 0, 1, -9998, 9999);
        Run free = run("if it becomes FREE, and was not");
        free.first("setKey(0, 0, 0)", "setKey(0, 10, 10)", "setSlopes(0, 0, -9999, 9999)").is("setMode(0, 0, 0)", 0);
        slopesAre(free, 0, 0, -9999, 9999);
        free.is("setMode(0, 0, 3)", 0).is("setMode(0, 0, 0)", 3);
        slopesAre(free, 0, 0, 64, 64);
    }

    private static void setSlopesBounds() {
        Run run = run("setSlopes: in and out -9999 to 9999");
        run.refuses(BAD_INDEX, "setSlopes(0, 5, 0, 0)");
        run.first("setKey(0, 5, 1)");
        run.refuses(BAD_VALUE, "setSlopes(0, 5, -10000, 0)", "setSlopes(0, 5, 10000, 0)", "setSlopes(0, 5, 0, -10000)",
                "setSlopes(0, 5, 0, 10000)", "setSlopes(0, 5, MIN, 0)", "setSlopes(0, 5, MAX, 0)", "setSlopes(0, 5, 0, MIN)",
                "setSlopes(0, 5, 0, MAX)");
        run.refuses(BAD_INDEX, "setSlopes(0, 4, 0, 0)", "setSlopes(0, 6, 10000, 0)", "setSlopes(4, 5, 0, 10000)");
        run.is("setSlopes(0, 5, -9999, 9999)", 3);
        slopesAre(run, 0, 0, -9999, 9999).is("modeOf(0, 0)", 0);
        run.is("setSlopes(0, 5, 9999, -9999)", 0);
        slopesAre(run, 0, 0, 9999, -9999);
        run.first("setMode(0, 5, 6)").is("setSlopes(0, 5, 0, 0)", 6).is("modeOf(0, 0)", 0);
    }

    private static void splitBounds() {
        Run run = run("split: BAD_VALUE if the frame is not between two keys, or there is a key");
        run.first("setKey(0, 1, 1)", "setKey(0, 10, 2)", "setKey(0, 11, 3)", "setKey(0, 479, 4)");
        run.refuses(BAD_VALUE, "split(0, 0)", "split(0, 1)", "split(0, 10)", "split(0, 11)", "split(0, 479)",
                "split(0, 480)", "split(0, -1)", "split(0, 481)", "split(0, MIN)", "split(0, MAX)");
        run.refuses(BAD_INDEX, "split(4, 5)", "split(-1, 1)");
        run.allows("split(0, 2)", "split(0, 9)", "split(0, 12)", "split(0, 478)");
        run.is("split(0, 9)", 1).is("split(0, 2)", 1).is("split(0, 12)", 5).is("split(0, 478)", 6).is("keys(0)", 8);
    }

    private static void splitOfFewKeys() {
        Run run = run("split of a curve with no key, one key and two keys");
        run.refuses(BAD_VALUE, "split(0, 0)", "split(0, 5)", "split(0, 480)");
        run.first("setKey(0, 5, 1)");
        run.refuses(BAD_VALUE, "split(0, 4)", "split(0, 5)", "split(0, 6)");
        run.first("setKey(0, 7, 3)");
        run.refuses(BAD_VALUE, "split(0, 4)", "split(0, 5)", "split(0, 7)", "split(0, 8)").is("split(0, 6)", 1);
        keyIs(run, 0, 1, 6, 2, 0);
        run.refuses(BAD_VALUE, "split(0, 6)");
    }

    private static void splitOfAFullCurve() {
        Run run = withKeys("split: FULL if the curve has 24 keys", 0, 23, 20);
        run.is("split(0, 439)", 22).is("keys(0)", 24);
        run.refuses(FULL, "split(0, 1)", "split(0, 438)");
        run.refuses(BAD_VALUE, "split(0, 0)", "split(0, 439)", "split(0, 440)", "split(0, 441)");
        run.is("undo()", 9).is("split(0, 1)", 1).is("keys(0)", 24);
    }

    private static void splitBesideHold() {
        Run run = run("a key with the mode HOLD stays as it is");
        run.first("setKey(0, 0, 5)", "setKey(0, 10, 9)", "setMode(0, 0, 6)", "setMode(0, 10, 6)").is("split(0, 1)", 1);
        keyIs(run, 0, 0, 0, 5, 6);
        keyIs(run, 0, 1, 1, 5, 6);
        keyIs(run, 0, 2, 10, 9, 6);
        run.first("setMode(0, 1, 1)").is("split(0, 9)", 2);
        keyIs(run, 0, 1, 1, 5, 0);
        keyIs(run, 0, 2, 9, 9, 0);
        keyIs(run, 0, 3, 10, 9, 6);
        Run before = run("if the key before it has the mode HOLD, the key behind becomes FREE all the same");
        before.first("setKey(0, 0, -999)", "setKey(0, 2, 999)", "setMode(0, 0, 6)", "setMode(0, 2, 2)").is("split(0, 1)", 1);
        keyIs(before, 0, 1, 1, -999, 6);
        keyIs(before, 0, 2, 2, 999, 0);
        slopesAre(before, 0, 2, 9999, 9999);
    }

    /** Above the level of two equal keys 240 frames apart the curve rises by 30 parts for each 1 of the slope. */
    private static void splitLimitsTheValue() {
        int[] slopes = {0, 1, 2, 3, 4, 9999};
        int[] due = {998, 998, 999, 999, 999, 999};
        for (int i = 0; i < 6; i++) {
            Run run = run("its value is round(value, 64), but at least -999 and at most 999");
            run.first("setKey(0, 0, 998)", "setKey(0, 240, 998)", "setSlopes(0, 0, 0, " + slopes[i] + ")");
            run.is("split(0, 120)", 1);
            keyIs(run, 0, 1, 120, due[i], 0);
            run.first("setKey(1, 0, -998)", "setKey(1, 240, -998)", "setSlopes(1, 0, 0, " + -slopes[i] + ")");
            run.is("split(1, 120)", 1);
            keyIs(run, 1, 1, 120, -due[i], 0);
        }
        Run half = run("round(value, 64), of two the greater one");
        half.first("setKey(0, 0, 0)", "setKey(0, 2, 1)").is("split(0, 1)", 1).is("valueOf(0, 1)", 1);
        half.first("setKey(1, 0, 0)", "setKey(1, 2, -1)").is("split(1, 1)", 1).is("valueOf(1, 1)", 0);
    }

    /** Two frames apart the slope is half of what a straight way rises. */
    private static void splitLimitsTheSlopes() {
        int[] rises = {312, 313, 1998};
        int[] due = {9984, 9999, 9999};
        for (int i = 0; i < 3; i++) {
            Run run = run("both of its slopes are at least -9999 and at most 9999");
            run.first("setKey(0, 0, -999)", "setKey(0, 2, " + (rises[i] - 999) + ")").is("split(0, 1)", 1);
            slopesAre(run, 0, 1, due[i], due[i]);
            run.first("setKey(1, 0, 999)", "setKey(1, 2, " + (999 - rises[i]) + ")").is("split(1, 1)", 1);
            slopesAre(run, 1, 1, -due[i], -due[i]);
        }
        Run half = run("the difference divided by 2 with round()");
        // 1 part at frame 1 and 0 at frame 3; and the other way round
        half.first("setKey(0, 0, 0)", "setKey(0, 4, 0)", "setSlopes(0, 0, 0, 2)", "setSlopes(0, 4, 0, 0)");
        half.is("value(0, 1)", 1).is("value(0, 3)", 0).is("split(0, 2)", 1);
        slopesAre(half, 0, 1, 0, 0);
        half.first("setKey(1, 0, 0)", "setKey(1, 4, 0)", "setSlopes(1, 0, 0, 0)", "setSlopes(1, 4, -2, 0)");
        half.is("value(1, 1)", 0).is("value(1, 3)", 1).is("split(1, 2)", 1);
        slopesAre(half, 1, 1, 1, 1);
    }

    /** A way of 0, 49, 72, 75, 64, 45, 24, 7 and 0 parts. */
    private static void splitBetweenItsNeighborFrames() {
        int[] frames = {1, 3, 5, 7};
        int[] values = {1, 1, 1, 0};
        int[] slopes = {36, -4, -20, -12};
        for (int i = 0; i < 4; i++) {
            Run run = run("the difference of the values at the next frame and at the previous frame");
            run.first("setKey(0, 0, 0)", "setKey(0, 8, 0)", "setSlopes(0, 0, 5, 64)", "setSlopes(0, 8, 0, 6)");
            run.is("split(0, " + frames[i] + ")", 1);
            keyIs(run, 0, 1, frames[i], values[i], 0);
            slopesAre(run, 0, 1, slopes[i], slopes[i]);
            slopesAre(run, 0, 0, 5, 64);
            slopesAre(run, 0, 2, 0, 6);
        }
    }

    /** The way is straight before the call; with slopes of 9999 it would not be. */
    private static void splitUsesTheOldValues() {
        Run run = run("split: all values of the curve are those before the call");
        run.first("setKey(0, 0, -999)", "setKey(0, 3, 999)").is("value(0, 1)", -21312).is("split(0, 1)", 1);
        keyIs(run, 0, 1, 1, -333, 0);
        slopesAre(run, 0, 0, 9999, 9999);
        slopesAre(run, 0, 1, 9999, 9999);
        slopesAre(run, 0, 2, 9999, 9999);
    }

    private static void clearOfEmptyAndFull() {
        Run run = withKeys("clear: removes all keys, and makes the extrapolation CONSTANT", 2, 24, 20);
        run.first("setExtrapolation(2, 4, 3)", "setKey(1, 5, 5)", "setExtrapolation(1, 1, 2)").is("clear(2)", 24);
        run.is("keys(2)", 0).is("keys(1)", 1).refuses(BAD_INDEX, "frameOf(2, 0)").refuses(NONE, "value(2, 0)");
        run.is("clear(2)", 0).is("setKey(2, 3, 1)", 1).is("setExtrapolation(2, 0, 0)", 0).is("setExtrapolation(1, 0, 0)", 12);
        run.is("undo()", 9).is("undo()", 8).is("undo()", 7).is("undo()", 6).is("undo()", 5);
        run.is("keys(2)", 24).is("setExtrapolation(2, 0, 0)", 43).refuses(BAD_INDEX, "clear(4)", "clear(-1)");
    }

    private static void extrapolationBounds() {
        Run run = run("setExtrapolation: CONSTANT to OFFSET, also without keys");
        run.refuses(BAD_VALUE, "setExtrapolation(0, -1, 0)", "setExtrapolation(0, 5, 0)", "setExtrapolation(0, 0, -1)",
                "setExtrapolation(0, 0, 5)", "setExtrapolation(0, MIN, 0)", "setExtrapolation(0, 0, MAX)");
        run.refuses(BAD_INDEX, "setExtrapolation(4, 5, 0)", "setExtrapolation(-1, 0, -1)");
        run.is("setExtrapolation(0, 4, 0)", 0).is("setExtrapolation(0, 0, 4)", 40).is("setExtrapolation(0, 4, 4)", 4);
        run.is("setExtrapolation(0, 0, 0)", 44).is("setExtrapolation(1, 0, 0)", 0).is("undo()", 4).is("undo()", 3);
        run.is("setExtrapolation(0, 1, 2)", 44).refuses(BAD_VALUE, "setExtrapolation(0, 5, 5)");
    }

    private static void keyNumbers() {
        Run run = run("the number of a key: 0 to one less than there are");
        run.first("setKey(0, 480, -999)");
        String[] calls = {"frameOf(0, %s)", "valueOf(0, %s)", "modeOf(0, %s)", "slope(0, %s, false)", "slope(0, %s, true)"};
        for (String call : calls) {
            run.refuses(BAD_INDEX, String.format(call, -1), String.format(call, 1), String.format(call, "MIN"),
                    String.format(call, "MAX"));
        }
        keyIs(run, 0, 0, 480, -999, 3);
        Run full = withKeys("the number of a key in a full curve: 0 to 23", 0, 24, 20);
        for (String call : calls) {
            full.allows(String.format(call, 0), String.format(call, 23));
            full.refuses(BAD_INDEX, String.format(call, -1), String.format(call, 24));
        }
        keyIs(full, 0, 0, 0, 1, 3);
        keyIs(full, 0, 23, 460, 24, 3);
        full.is("keys(0)", 24);
    }
}
