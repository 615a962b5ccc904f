/** Each sentence of "Maps" and of promises 20 to 25 that names a boundary case: at the bound, beyond it, and refused. */
public final class BoundsOfMapsTest {
    private static final Due DUE = new Due("BoundsOfMapsTest");
    private static final int BAD_INDEX = Run.BAD_INDEX;
    private static final int BAD_VALUE = Run.BAD_VALUE;
    private static final int FULL = Run.FULL;
    private static final int NOT_POSSIBLE = Run.NOT_POSSIBLE;

    /** bake and bakeFormula have the same ranges; their arguments stand for %s. */
    private static final String[] BAKES = {"bake(%s)", "bakeFormula(%s)"};

    public static void main(String[] args) {
        pointFrames();
        pointsIncreaseStrictly();
        atMost8Points();
        clearMapOfEmptyAndFull();
        mappedFrames();
        mappedWithoutPoints();
        mappedAroundOnePoint();
        mappedAroundEachPoint();
        mappedIsRounded();
        retimeOfNoKeys();
        retimeToTheFirstAndLastFrame();
        retimeOfTwoKeysToOneFrame();
        retimeOfAFullCurve();
        retimeSlopesAtEachPlace();
        retimeSlopesWithFewPoints();
        retimeSlopesAreLimited();
        retimeSlopesAreRounded();
        retimeOnlyFreeSlopes();
        bakeRanges();
        bakeSteps();
        bakeReplacesTheRange();
        bakeUpTo24Keys();
        bakeBesideOtherKeys();
        bakeNextToOtherKeys();
        bakeIntoAFullCurve();
        bakeWithoutKeys();
        bakeLimitsTheValue();
        bakeOfTheOldCurve();
        bakeFormulaLimitsTheValue();
        bakeFormulaOfTheOldCurve();
        DUE.finish();
    }

    private static Run run(String sentence) {
        return new Run(DUE, sentence);
    }

    private static Run slopesAre(Run run, int key, int in, int out) {
        run.is("slope(0, " + key + ", false)", in);
        return run.is("slope(0, " + key + ", true)", out);
    }

    private static Run keyIs(Run run, int key, int frame, int value, int mode) {
        run.is("frameOf(0, " + key + ")", frame);
        run.is("valueOf(0, " + key + ")", value);
        return run.is("modeOf(0, " + key + ")", mode);
    }

    /** The value and the frame are the same number, so that all keys lie on one straight line. */
    private static Run linear(Run run, int... frames) {
        for (int frame : frames) {
            run.first("setKey(0, " + frame + ", " + frame + ")", "setMode(0, " + frame + ", 2)");
        }
        return run;
    }

    private static void pointFrames() {
        Run run = run("addPoint: source and target 0 to 480");
        run.refuses(BAD_VALUE, "addPoint(-1, 0)", "addPoint(481, 0)", "addPoint(0, -1)", "addPoint(0, 481)",
                "addPoint(MIN, 0)", "addPoint(MAX, 0)", "addPoint(0, MIN)", "addPoint(0, MAX)");
        run.allows("addPoint(0, 0)", "addPoint(0, 480)", "addPoint(480, 0)", "addPoint(480, 480)");
        run.is("addPoint(0, 0)", 1).is("addPoint(480, 480)", 2);
        run.refuses(BAD_VALUE, "addPoint(481, 481)", "addPoint(480, 480)", "addPoint(MAX, MAX)");
        run.is("mapped(0)", 0).is("mapped(480)", 480);
    }

    private static void pointsIncreaseStrictly() {
        Run run = run("addPoint: BAD_VALUE if a frame is not greater than that of the point before");
        run.first("addPoint(10, 20)");
        run.refuses(BAD_VALUE, "addPoint(10, 21)", "addPoint(9, 21)", "addPoint(11, 20)", "addPoint(11, 19)",
                "addPoint(10, 20)", "addPoint(0, 480)", "addPoint(480, 0)");
        run.is("addPoint(11, 21)", 2).refuses(BAD_VALUE, "addPoint(11, 22)", "addPoint(12, 21)");
        run.is("undo()", 1).is("addPoint(11, 22)", 2).is("clearMap()", 2).is("addPoint(0, 0)", 1);
    }

    private static Run withPoints(String sentence, int count) {
        Run run = run(sentence);
        for (int i = 1; i <= count; i++) {
            run.is("addPoint(" + 10 * i + ", " + 20 * i + ")", i);
        }
        return run;
    }

    private static void atMost8Points() {
        Run run = withPoints("addPoint: FULL if there are 8 points", 7);
        run.is("addPoint(80, 160)", 8).refuses(FULL, "addPoint(81, 161)", "addPoint(480, 480)");
        run.refuses(BAD_VALUE, "addPoint(80, 161)", "addPoint(81, 160)", "addPoint(481, 480)", "addPoint(480, 481)");
        run.is("mapped(80)", 160).is("mapped(81)", 161).is("mapped(75)", 150).is("undo()", 7).is("addPoint(90, 161)", 8);
    }

    private static void clearMapOfEmptyAndFull() {
        Run run = run("clearMap: removes all points of the map");
        run.is("clearMap()", 0);
        Run full = withPoints("clearMap of a full map", 8);
        full.is("clearMap()", 8).is("mapped(5)", 5).is("mapped(15)", 15).is("clearMap()", 0).is("undo()", 9);
        full.is("undo()", 8).is("mapped(15)", 30).is("clearMap()", 8).is("addPoint(1, 2)", 1).is("mapped(5)", 6);
    }

    private static void mappedFrames() {
        Run run = run("mapped: frame 0 to 480; the answer may be out of range");
        run.refuses(BAD_VALUE, "mapped(-1)", "mapped(481)", "mapped(MIN)", "mapped(MAX)").allows("mapped(0)", "mapped(480)");
        run.first("addPoint(480, 0)").is("mapped(0)", -480).is("mapped(479)", -1).is("mapped(480)", 0);
        run.refuses(BAD_VALUE, "mapped(-1)", "mapped(481)");
        run.first("clearMap()", "addPoint(0, 480)").is("mapped(0)", 480).is("mapped(1)", 481).is("mapped(480)", 960);
    }

    private static void mappedWithoutPoints() {
        Run run = run("without points the map sends each frame to itself");
        for (int frame : new int[] {0, 1, 240, 479, 480}) {
            run.is("mapped(" + frame + ")", frame);
        }
    }

    private static void mappedAroundOnePoint() {
        Run run = run("before the first point and behind the last one it adds the difference of target and source");
        run.first("addPoint(100, 97)").is("mapped(0)", -3).is("mapped(99)", 96).is("mapped(100)", 97);
        run.is("mapped(101)", 98).is("mapped(480)", 477);
    }

    private static void mappedAroundEachPoint() {
        Run run = run("between two neighboring source frames, and at them");
        run.first("addPoint(100, 50)", "addPoint(110, 150)", "addPoint(111, 151)", "addPoint(121, 152)");
        int[] due = {99, 49, 100, 50, 101, 60, 109, 140, 110, 150, 111, 151, 115, 151, 116, 152, 120, 152, 121, 152, 122, 153};
        for (int i = 0; i < due.length; i += 2) {
            run.is("mapped(" + due[i] + ")", due[i + 1]);
        }
    }

    private static void mappedIsRounded() {
        Run run = run("y + round((t - s) * (z - y), u - s), of two the greater one");
        run.first("addPoint(1, 10)", "addPoint(5, 11)", "addPoint(8, 12)");
        int[] due = {10, 10, 11, 11, 11, 11, 12, 12};
        for (int i = 0; i < 8; i++) {
            run.is("mapped(" + (i + 1) + ")", due[i]);
        }
    }

    private static void retimeOfNoKeys() {
        Run run = run("retime of a curve without keys");
        run.is("retime(0)", 0).is("undo()", 0).first("addPoint(480, 0)").is("retime(3)", 0).is("undo()", 1);
        run.refuses(BAD_INDEX, "retime(4)", "retime(-1)");
        Run same = linear(run("retime without points"), 0, 240, 480);
        same.is("retime(0)", 0).is("undo()", 6).is("frameOf(0, 2)", 480);
    }

    private static void retimeToTheFirstAndLastFrame() {
        Run run = linear(run("NOT_POSSIBLE if a key would get a frame that is not 0 to 480"), 3, 400);
        run.first("addPoint(10, 6)").refuses(NOT_POSSIBLE, "retime(0)");
        run.first("clearMap()", "addPoint(10, 7)").is("retime(0)", 2).is("frameOf(0, 0)", 0).is("frameOf(0, 1)", 397);
        run.first("clearMap()", "addPoint(0, 84)").refuses(NOT_POSSIBLE, "retime(0)");
        run.first("clearMap()", "addPoint(0, 83)").is("retime(0)", 2).is("frameOf(0, 0)", 83).is("frameOf(0, 1)", 480);
        Run one = linear(run("NOT_POSSIBLE also if it is only one of many keys"), 0, 10, 20, 30);
        one.first("addPoint(10, 5)", "addPoint(20, 20)").refuses(NOT_POSSIBLE, "retime(0)");
        one.first("removeKey(0, 0)").is("retime(0)", 1);
        Run last = linear(run("NOT_POSSIBLE also if it is only the last key"), 10, 20, 480);
        last.first("addPoint(10, 10)", "addPoint(20, 21)").refuses(NOT_POSSIBLE, "retime(0)");
        last.first("moveKey(0, 480, 479)").is("retime(0)", 2).is("frameOf(0, 2)", 480);
    }

    private static void retimeOfTwoKeysToOneFrame() {
        Run run = linear(run("NOT_POSSIBLE if two keys would get the same frame"), 0, 1, 2, 4);
        run.first("addPoint(0, 0)", "addPoint(4, 2)").is("mapped(1)", 1).is("mapped(2)", 1).is("mapped(3)", 2).is("mapped(4)", 2);
        run.refuses(NOT_POSSIBLE, "retime(0)").first("moveKey(0, 2, 3)").refuses(NOT_POSSIBLE, "retime(0)");
        run.first("removeKey(0, 4)").is("retime(0)", 1).is("frameOf(0, 1)", 1).is("frameOf(0, 2)", 2);
    }

    private static void retimeOfAFullCurve() {
        Run run = run("retime of a full curve: the number of keys whose frame changes");
        for (int i = 0; i < 24; i++) {
            run.first("setKey(0, " + 10 * i + ", 1)");
        }
        run.first("addPoint(0, 0)", "addPoint(230, 460)").is("retime(0)", 23).is("frameOf(0, 23)", 460);
        run.first("clearMap()", "addPoint(230, 230)", "addPoint(460, 461)").is("retime(0)", 6);
        run.is("frameOf(0, 0)", 0).is("frameOf(0, 17)", 340).is("frameOf(0, 18)", 361).is("frameOf(0, 23)", 461);
    }

    /** Slopes are halved between the first two points, kept between the next ones, and doubled between the last ones. */
    private static void retimeSlopesAtEachPlace() {
        Run run = run("at a source frame the in slope is changed by the points before and at it, the out slope by those at and behind");
        run.first("addPoint(100, 100)", "addPoint(110, 120)", "addPoint(120, 130)", "addPoint(140, 140)");
        int[] frames = {99, 100, 101, 109, 110, 111, 120, 121, 139, 140, 141};
        int[] ins = {8, 8, 4, 4, 4, 8, 8, 16, 16, 16, 8};
        int[] outs = {8, 4, 4, 4, 8, 8, 16, 16, 16, 8, 8};
        for (int i = 0; i < frames.length; i++) {
            run.first("clear(0)", "setKey(0, " + frames[i] + ", 5)", "setSlopes(0, " + frames[i] + ", 8, 8)", "retime(0)");
            slopesAre(run, 0, ins[i], outs[i]);
        }
    }

    private static void retimeSlopesWithFewPoints() {
        Run run = run("slopes stay where there are no such two points");
        for (int frame : new int[] {99, 100, 101}) {
            run.first("clear(0)", "setKey(0, " + frame + ", 5)", "setSlopes(0, " + frame + ", -9999, 9999)");
            slopesAre(run.is("retime(0)", 0), 0, -9999, 9999);
        }
        run.first("addPoint(100, 200)");
        for (int frame : new int[] {99, 100, 101}) {
            run.first("clear(0)", "setKey(0, " + frame + ", 5)", "setSlopes(0, " + frame + ", -9999, 9999)");
            slopesAre(run.is("retime(0)", 1), 0, -9999, 9999);
        }
    }

    private static void retimeSlopesAreLimited() {
        int[] slopes = {3332, 3333, 3334, 9999};
        int[] due = {9996, 9999, 9999, 9999};
        for (int i = 0; i < 4; i++) {
            Run run = run("round(slope * (u - s), z - y), but at least -9999 and at most 9999");
            run.first("addPoint(0, 0)", "addPoint(30, 10)", "setKey(0, 15, 1)");
            run.first("setSlopes(0, 15, " + slopes[i] + ", " + -slopes[i] + ")", "retime(0)");
            slopesAre(run, 0, due[i], -due[i]);
        }
        Run widest = run("the widest stretch of a slope");
        widest.first("addPoint(0, 0)", "addPoint(480, 1)", "setKey(0, 100, 1)", "setSlopes(0, 100, 9999, -9999)", "retime(0)");
        slopesAre(widest, 0, 9999, -9999);
        widest.first("clearMap()", "addPoint(0, 0)", "addPoint(1, 480)", "retime(0)");
        slopesAre(widest, 0, 9999, -21);
    }

    private static void retimeSlopesAreRounded() {
        int[] slopes = {1, -1, 3, -3, 5, -5};
        int[] due = {1, 0, 2, -1, 3, -2};
        for (int i = 0; i < slopes.length; i += 2) {
            Run run = run("round(slope * (u - s), z - y), of two the greater one");
            run.first("addPoint(0, 0)", "addPoint(10, 20)", "setKey(0, 5, 1)");
            run.first("setSlopes(0, 5, " + slopes[i] + ", " + slopes[i + 1] + ")").is("retime(0)", 1);
            slopesAre(run, 0, due[i], due[i + 1]);
        }
    }

    private static void retimeOnlyFreeSlopes() {
        Run run = run("the slopes of FREE keys; other keys keep their modes");
        run.first("addPoint(0, 0)", "addPoint(100, 200)", "setExtrapolation(0, 4, 3)");
        for (int mode = 0; mode <= 6; mode++) {
            run.first("setKey(0, " + 10 * mode + ", " + 10 * mode + ")", "setMode(0, " + 10 * mode + ", " + mode + ")");
        }
        run.first("setSlopes(0, 0, 64, 64)").is("retime(0)", 6);
        for (int mode = 0; mode <= 6; mode++) {
            keyIs(run, mode, 20 * mode, 10 * mode, mode);
        }
        slopesAre(run, 0, 64, 32);
        slopesAre(run, 2, 32, 32);
        run.is("setExtrapolation(0, 0, 0)", 43);
    }

    private static String bake(String call, String arguments) {
        return String.format(call, arguments);
    }

    private static void bakeRanges() {
        for (String call : BAKES) {
            Run run = linear(run("from 0 to 480, to from to 480, step 1 to 480"), 100, 200);
            run.refuses(BAD_VALUE, bake(call, "0, 5, 4, 1"), bake(call, "0, -1, 4, 5"), bake(call, "0, -1, -1, 5"),
                    bake(call, "0, 480, 481, 5"), bake(call, "0, 481, 481, 5"), bake(call, "0, MIN, 5, 5"),
                    bake(call, "0, 5, MAX, 480"), bake(call, "0, MIN, MAX, 480"), bake(call, "0, MAX, MIN, 480"));
            run.refuses(BAD_VALUE, bake(call, "0, 0, 5, 0"), bake(call, "0, 0, 5, -1"), bake(call, "0, 0, 5, 481"),
                    bake(call, "0, 0, 5, MIN"), bake(call, "0, 0, 5, MAX"), bake(call, "0, 0, 480, 0"));
            run.refuses(BAD_INDEX, bake(call, "4, 5, 4, 0"), bake(call, "-1, 0, 481, 1"));
            run.allows(bake(call, "0, 0, 0, 1"), bake(call, "0, 0, 480, 480"), bake(call, "0, 480, 480, 480"),
                    bake(call, "0, 0, 21, 1"), bake(call, "0, 4, 5, 480"));
            run.is(bake(call, "0, 0, 0, 480"), 3).is("frameOf(0, 0)", 0);
            run.is(bake(call, "0, 480, 480, 1"), 4).is("frameOf(0, 3)", 480);
            run.is(bake(call, "0, 0, 480, 480"), 2).is("frameOf(0, 0)", 0).is("frameOf(0, 1)", 480);
        }
    }

    private static void bakeSteps() {
        for (String call : BAKES) {
            Run run = linear(run("from, from + step, and so on, as far as they are not beyond to"), 0, 480);
            run.is(bake(call, "0, 100, 110, 10"), 4).is("frameOf(0, 1)", 100).is("frameOf(0, 2)", 110);
            run.is("undo()", 4).is(bake(call, "0, 100, 109, 10"), 3).is("frameOf(0, 1)", 100).is("frameOf(0, 2)", 480);
            run.is("undo()", 4).is(bake(call, "0, 100, 111, 10"), 4).is("frameOf(0, 2)", 110);
            run.is("undo()", 4).is(bake(call, "0, 100, 120, 10"), 5).is("frameOf(0, 3)", 120);
            run.is("undo()", 4).is(bake(call, "0, 0, 479, 480"), 2).is("frameOf(0, 1)", 480).is("undo()", 4);
            run.is(bake(call, "0, 1, 480, 480"), 2).is("frameOf(0, 0)", 0).is("frameOf(0, 1)", 1);
        }
    }

    private static void bakeReplacesTheRange() {
        for (String call : BAKES) {
            Run run = linear(run("all its keys in the range are removed"), 99, 100, 101, 149, 150, 151);
            run.first("setMode(0, 99, 6)", "setSlopes(0, 151, 7, 8)");
            run.is(bake(call, "0, 100, 150, 480"), 3).is("frameOf(0, 0)", 99).is("frameOf(0, 1)", 100).is("frameOf(0, 2)", 151);
            run.is("modeOf(0, 0)", 6).is("modeOf(0, 1)", 2).is("modeOf(0, 2)", 0);
            slopesAre(run, 2, 7, 8).is("undo()", 9);
            run.is(bake(call, "0, 101, 149, 48"), 6).is("modeOf(0, 2)", 2).is("modeOf(0, 3)", 2).is("undo()", 9);
            run.is(bake(call, "0, 102, 148, 480"), 7).is("frameOf(0, 3)", 102);
        }
    }

    private static void bakeUpTo24Keys() {
        for (String call : BAKES) {
            Run run = linear(run("FULL if it would have more than 24"), 0);
            run.refuses(FULL, bake(call, "0, 0, 24, 1"), bake(call, "0, 0, 480, 1"), bake(call, "0, 0, 480, 20"),
                    bake(call, "0, 1, 24, 1"), bake(call, "0, 1, 480, 20"));
            run.allows(bake(call, "0, 0, 23, 1"), bake(call, "0, 1, 23, 1"), bake(call, "0, 0, 480, 21"));
            run.is(bake(call, "0, 0, 23, 1"), 24).is("frameOf(0, 23)", 23).refuses(FULL, "setKey(0, 24, 0)");
            run.is("undo()", 2).is(bake(call, "0, 20, 480, 20"), Run.FULL).is(bake(call, "0, 40, 480, 20"), 24);
            run.is("frameOf(0, 23)", 480);
        }
    }

    private static void bakeBesideOtherKeys() {
        for (String call : BAKES) {
            Run run = linear(run("keys outside the range stay, and count"), 9, 10, 20, 21);
            run.refuses(FULL, bake(call, "0, 30, 50, 1"), bake(call, "0, 22, 42, 1"), bake(call, "0, 100, 120, 1"));
            run.allows(bake(call, "0, 30, 49, 1"), bake(call, "0, 100, 119, 1"), bake(call, "0, 10, 20, 1"));
            run.allows(bake(call, "0, 20, 40, 1"), bake(call, "0, 10, 30, 1"));
            run.refuses(FULL, bake(call, "0, 21, 42, 1"), bake(call, "0, 20, 42, 1"));
            run.is(bake(call, "0, 30, 49, 1"), 24).is("frameOf(0, 3)", 21).is("frameOf(0, 23)", 49);
        }
    }

    private static void bakeNextToOtherKeys() {
        for (String call : BAKES) {
            Run run = linear(run("keys just before and just behind the range count"), 0, 24);
            run.refuses(FULL, bake(call, "0, 1, 23, 1"), bake(call, "0, 0, 23, 1"), bake(call, "0, 1, 24, 1"),
                    bake(call, "0, 0, 24, 1"), bake(call, "0, 1, 25, 1"));
            run.allows(bake(call, "0, 1, 22, 1"), bake(call, "0, 0, 22, 1"), bake(call, "0, 2, 24, 1"), bake(call, "0, 1, 25, 2"));
        }
    }

    private static void bakeIntoAFullCurve() {
        for (String call : BAKES) {
            Run run = run("a full curve may be baked where as many keys are removed");
            for (int i = 0; i < 24; i++) {
                run.first("setKey(0, " + 20 * i + ", 1)");
            }
            run.refuses(FULL, bake(call, "0, 1, 1, 1"), bake(call, "0, 480, 480, 1"), bake(call, "0, 20, 21, 1"),
                    bake(call, "0, 441, 460, 19"));
            run.allows(bake(call, "0, 0, 1, 480"), bake(call, "0, 20, 40, 20"), bake(call, "0, 441, 460, 20"));
            run.is(bake(call, "0, 20, 40, 10"), Run.FULL).is(bake(call, "0, 20, 20, 1"), 24).is("modeOf(0, 1)", 2);
            run.is(bake(call, "0, 0, 480, 480"), 2);
        }
    }

    private static void bakeWithoutKeys() {
        Run run = run("bake: NOT_POSSIBLE if the curve has no keys");
        run.refuses(NOT_POSSIBLE, "bake(0, 0, 0, 1)", "bake(0, 0, 480, 1)", "bake(0, 0, 24, 1)");
        run.refuses(BAD_VALUE, "bake(0, 1, 0, 1)", "bake(0, 0, 481, 1)", "bake(0, 0, 0, 0)").refuses(BAD_INDEX, "bake(4, 0, 0, 1)");
        run.refuses(FULL, "bakeFormula(0, 0, 24, 1)", "bakeFormula(0, 0, 480, 1)").is("bakeFormula(0, 0, 23, 1)", 24);
        keyIs(run, 0, 0, 0, 2);
        keyIs(run, 23, 23, 0, 2);
        Run one = run("bake of a curve with one key");
        one.first("setKey(0, 240, -7)").is("bake(0, 0, 480, 480)", 2);
        keyIs(one, 0, 0, -7, 2);
        keyIs(one, 1, 480, -7, 2);
    }

    /** Behind its last key, at frame 1, the curve goes on from 995 or -995 by a quarter of a unit a frame. */
    private static void bakeLimitsTheValue() {
        int[] frames = {14, 15, 16, 17, 19, 20, 21, 480};
        int[] above = {998, 999, 999, 999, 999, 999, 999, 999};
        int[] below = {-998, -998, -999, -999, -999, -999, -999, -999};
        for (int i = 0; i < frames.length; i++) {
            for (int sign = -1; sign <= 1; sign += 2) {
                Run run = run("round(value, 64), but at least -999 and at most 999");
                run.first("setKey(0, 0, 0)", "setKey(0, 1, " + 995 * sign + ")", "setSlopes(0, 1, 0, " + 16 * sign + ")");
                run.first("setExtrapolation(0, 0, 1)").is("bake(0, " + frames[i] + ", " + frames[i] + ", 1)", 3);
                run.is("valueOf(0, 2)", sign > 0 ? above[i] : below[i]);
            }
        }
        Run half = run("round(value, 64), of two the greater one");
        half.first("setKey(0, 0, 0)", "setKey(0, 1, 0)", "setSlopes(0, 1, 0, 1)", "setExtrapolation(0, 0, 1)");
        half.is("bake(0, 32, 32, 1)", 3).is("valueOf(0, 2)", 0).is("undo()", 4);
        half.is("bake(0, 33, 33, 1)", 3).is("valueOf(0, 2)", 1).is("undo()", 4).first("setSlopes(0, 1, 0, -1)");
        half.is("bake(0, 33, 33, 1)", 3).is("valueOf(0, 2)", 0).is("undo()", 5);
        half.is("bake(0, 34, 34, 1)", 3).is("valueOf(0, 2)", -1);
    }

    /** The range holds all keys, so that nothing but the old curve could tell the values. */
    private static void bakeOfTheOldCurve() {
        Run run = run("the value of the old curve at the frame");
        run.first("setKey(0, 10, 0)", "setKey(0, 20, 100)", "setKey(0, 30, 0)", "setExtrapolation(0, 3, 2)");
        for (int frame = 10; frame <= 30; frame += 10) {
            run.first("setMode(0, " + frame + ", 2)");
        }
        run.is("bake(0, 5, 35, 5)", 7);
        int[] due = {50, 0, 50, 100, 50, 0, 50};
        for (int key = 0; key < 7; key++) {
            keyIs(run, key, 5 + 5 * key, due[key], 2);
        }
        run.is("setExtrapolation(0, 0, 0)", 32);
    }

    private static void bakeFormulaLimitsTheValue() {
        String[] texts = {"998", "999", "999+1", "999*999", "-998", "-999", "-999-1", "-999*999", "0"};
        int[] due = {998, 999, 999, 999, -998, -999, -999, -999, 0};
        for (int i = 0; i < texts.length; i++) {
            Run run = run("bakeFormula: at least -999 and at most 999: " + texts[i]);
            run.type(texts[i]).first("readFormula()", "setExtrapolation(0, 1, 2)").is("bakeFormula(0, 480, 480, 1)", 1);
            keyIs(run, 0, 480, due[i], 2).is("setExtrapolation(0, 0, 0)", 12);
        }
        Run half = run("bakeFormula: round(value, 64), of two the greater one");
        half.first("setKey(1, 0, 0)", "setKey(1, 64, 1)", "setMode(1, 0, 2)", "setMode(1, 64, 2)");
        half.type("b").first("readFormula()").is("bakeFormula(0, 31, 32, 1)", 2).is("valueOf(0, 0)", 0).is("valueOf(0, 1)", 1);
        half.type("-b").first("readFormula()").is("bakeFormula(0, 32, 33, 1)", 3).is("valueOf(0, 1)", 0).is("valueOf(0, 2)", -1);
    }

    private static void bakeFormulaOfTheOldCurve() {
        Run run = linear(run("bakeFormula: a formula of the very curve that gets the keys"), 0, 480);
        run.type("a@100+1").first("readFormula()", "setExtrapolation(0, 4, 3)").is("bakeFormula(0, 0, 400, 100)", 6);
        int[] due = {1, 1, 101, 201, 301, 480};
        for (int key = 0; key < 6; key++) {
            run.is("valueOf(0, " + key + ")", due[key]);
        }
        run.is("setExtrapolation(0, 0, 0)", 43);
    }
}
