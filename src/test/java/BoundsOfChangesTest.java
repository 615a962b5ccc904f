import java.math.BigInteger;
import java.util.ArrayList;
import java.util.List;

/** Each sentence of "Changes", "Errors" and of promises 34 and 35 that names a boundary case; and the 512th call. */
public final class BoundsOfChangesTest {
    private static final Due DUE = new Due("BoundsOfChangesTest");
    private static final int BAD_INDEX = Run.BAD_INDEX;
    private static final int BAD_VALUE = Run.BAD_VALUE;
    private static final int FULL = Run.FULL;
    private static final int NOT_POSSIBLE = Run.NOT_POSSIBLE;
    private static final int NONE = Run.NONE;

    /** Each call that is a change, on a furnished object; and a call that changes nothing of it but is a change too. */
    private static final String[] CHANGES = {"setKey(0, 40, 7)", "setKey(0, 10, 7)", "removeKey(0, 10)", "moveKey(0, 10, 35)",
        "setMode(0, 10, 0)", "setMode(0, 10, 6)", "setSlopes(0, 10, 55, 66)", "split(0, 15)", "clear(0)",
        "setExtrapolation(0, 1, 3)", "addPoint(400, 420)", "clearMap()", "retime(0)", "bake(0, 0, 12, 3)",
        "bakeFormula(0, 0, 12, 3)", "decimate(0, 9999)", "readCurve(1)"};
    private static final String[] EMPTY_CHANGES = {"setKey(0, 10, -20)", "moveKey(0, 10, 10)", "setMode(0, 10, 3)",
        "setMode(0, 30, 0)", "setSlopes(0, 30, 100, 200)", "clear(2)", "setExtrapolation(0, 2, 4)", "retime(2)",
        "bake(1, 5, 5, 1)", "bakeFormula(1, 5, 5, 1)", "decimate(0, 0)", "decimate(2, 9999)", "readCurve(3)"};

    public static void main(String[] args) {
        undoOfNothing();
        tenStates();
        elevenStates();
        eachChangeKeepsTheStateBefore();
        eachChangeDropsTheOldest();
        alsoIfNothingBecomesDifferent();
        emptyMapAndFormula();
        readingIsNoChange();
        refusedCallsAreNoChanges();
        textIsNoPartOfIt();
        undoIsNoChange();
        changeAfterUndo();
        undoOfEverything();
        orderOfTheChecks();
        noneOnlyIfNoErrorApplies();
        checksumOfANewObject();
        checksumOfNegativeNumbers();
        checksumOfAFullObject();
        checksumFrames();
        last512Calls();
        manyDearCalls();
        DUE.finish();
    }

    private static Run run(String sentence) {
        return new Run(DUE, sentence);
    }

    /** Curve 0 with three keys, curve 1 with a key as bake leaves it, curve 3 as the text says; a map and a formula. */
    private static Run furnished(String sentence) {
        Run run = run(sentence).type("5").first("readFormula()", "bakeFormula(1, 5, 5, 1)").type("3:4,8:-9H;");
        run.first("readCurve(3)", "setKey(0, 0, 10)", "setKey(0, 10, -20)", "setKey(0, 30, 50)", "setSlopes(0, 30, 100, 200)");
        return run.first("setExtrapolation(0, 2, 4)", "addPoint(0, 0)", "addPoint(100, 200)");
    }

    private static void undoOfNothing() {
        Run run = run("undo: NONE if it was empty");
        run.refuses(NONE, "undo()").first("setKey(0, 0, 0)").is("undo()", 0).refuses(NONE, "undo()").is("keys(0)", 0);
        run.is("undo()", NONE).is("undo()", NONE).first("setKey(0, 0, 0)").is("undo()", 0);
    }

    private static void tenStates() {
        Run run = run("a history of at most 10 states");
        List<Long> sums = new ArrayList<>();
        for (int i = 0; i < 10; i++) {
            sums.add(run.checksum());
            run.is("setKey(0, " + i + ", " + i + ")", i + 1);
        }
        for (int left = 9; left >= 0; left--) {
            run.is("undo()", left).is("checksum()", sums.get(left));
        }
        run.is("keys(0)", 0).refuses(NONE, "undo()");
    }

    private static void elevenStates() {
        for (int changes = 11; changes <= 24; changes++) {
            Run run = run("if there are 10 already, the oldest one is dropped: " + changes + " changes");
            for (int i = 0; i < changes; i++) {
                run.is("setKey(0, " + i + ", " + i + ")", i + 1);
            }
            for (int left = 9; left >= 0; left--) {
                run.is("undo()", left).is("keys(0)", changes - 10 + left);
            }
            run.refuses(NONE, "undo()").is("keys(0)", changes - 10);
        }
    }

    private static void eachChangeKeepsTheStateBefore() {
        for (String call : CHANGES) {
            Run run = furnished("each change records the state before it");
            long before = run.checksum();
            run.first(call);
            DUE.holds(call + " as a change of the checksum", run.checksum() != before);
            run.is("undo()", 9).is("checksum()", before);
        }
        Run formula = furnished("a new formula is a change").type("a*2-7");
        long before = formula.checksum();
        formula.is("readFormula()", 3);
        DUE.holds("readFormula() as a change of the checksum", formula.checksum() != before);
        formula.is("undo()", 9).is("checksum()", before);
    }

    private static void eachChangeDropsTheOldest() {
        for (String call : CHANGES) {
            Run run = furnished("the oldest one of ten is dropped").first(call);
            for (int left = 9; left >= 0; left--) {
                run.is("undo()", left);
            }
            run.refuses(NONE, "undo()");
        }
    }

    private static void alsoIfNothingBecomesDifferent() {
        for (String call : EMPTY_CHANGES) {
            Run run = furnished("changes, also if nothing becomes different").is("undo()", 9).is("undo()", 8);
            long before = run.checksum();
            run.first(call).is("checksum()", before).is("undo()", 8).is("checksum()", before);
        }
    }

    private static void emptyMapAndFormula() {
        Run run = run("changes, also if the map and the formula stay what they are");
        run.is("clearMap()", 0).is("clearMap()", 0).type("0").is("readFormula()", 1).is("readFormula()", 1);
        run.is("retime(0)", 0).is("decimate(1, 0)", 0).is("clear(2)", 0).is("setExtrapolation(3, 0, 0)", 0).is("undo()", 7);
    }

    private static void readingIsNoChange() {
        Run run = furnished("calls that change no curve, no map and no formula are no changes");
        run.is("undo()", 9).is("undo()", 8);
        run.refuses(3, "keys(0)").refuses(10, "frameOf(0, 1)", "valueOf(0, 0)").refuses(3, "modeOf(0, 1)");
        run.refuses(100, "slope(0, 2, false)").refuses(200, "slope(0, 2, true)").refuses(640, "value(0, 0)");
        run.refuses(10, "units(0, 0)", "mean(0, 0, 0)").refuses(0, "extreme(0, 0, 0, true)", "crossings(0, 0, 0, 5)");
        run.refuses(7, "mapped(7)").refuses(2, "polyline(0, 0, 1, 0, -1)").refuses(1, "polyline(0, 0, 1, 0, 1)");
        run.refuses(320, "mix(9)").refuses(NONE, "faultPosition(false)").refuses(1, "faultPosition(true)");
        run.refuses(run.checksum(), "checksum()").is("append(65)", 11).is("clearText()", 11).is("undo()", 7);
    }

    private static void refusedCallsAreNoChanges() {
        Run run = furnished("a call that reports an error changes nothing");
        run.refuses(BAD_INDEX, "setKey(4, 0, 0)", "removeKey(0, 1)", "moveKey(0, 1, 2)", "setMode(0, 1, 2)",
                "setSlopes(0, 1, 2, 3)", "split(4, 5)", "clear(4)", "setExtrapolation(4, 0, 0)", "retime(4)",
                "bake(4, 0, 0, 1)", "bakeFormula(4, 0, 0, 1)", "decimate(4, 0)", "readCurve(4)");
        run.refuses(BAD_VALUE, "setKey(0, 481, 0)", "moveKey(0, 0, 481)", "setMode(0, 0, 7)", "setSlopes(0, 0, 0, 10000)",
                "split(0, 0)", "setExtrapolation(0, 0, 5)", "addPoint(100, 300)", "bake(0, 1, 0, 1)", "bakeFormula(0, 1, 0, 1)",
                "decimate(0, 10000)", "append(128)", "readFormula()");
        run.refuses(FULL, "bake(0, 100, 123, 1)", "bakeFormula(0, 100, 123, 1)");
        run.refuses(NOT_POSSIBLE, "moveKey(0, 0, 10)", "bake(2, 0, 0, 1)");
    }

    private static void textIsNoPartOfIt() {
        Run run = run("the text is not part of this").type("7").first("readFormula()", "append(43)", "setKey(0, 0, 0)", "append(56)");
        run.is("undo()", 1).is("undo()", 0).is("faultPosition(true)", NONE).is("readFormula()", 2).is("mix(0)", 960);
        run.is("clearText()", 3).is("undo()", 0).is("clearText()", 0).is("mix(0)", 0);
    }

    private static void undoIsNoChange() {
        Run run = run("undo() removes the latest one and restores it");
        run.first("setKey(0, 0, 1)", "setKey(0, 0, 2)", "setKey(0, 0, 3)", "setKey(0, 0, 4)");
        run.is("undo()", 3).is("valueOf(0, 0)", 3).is("undo()", 2).is("valueOf(0, 0)", 2).is("undo()", 1).is("valueOf(0, 0)", 1);
        run.is("undo()", 0).is("keys(0)", 0).refuses(NONE, "undo()");
    }

    private static void changeAfterUndo() {
        Run run = run("changes behind undo() at a full history");
        for (int i = 1; i <= 13; i++) {
            run.first("setKey(0, 0, " + i + ")");
        }
        run.is("undo()", 9).is("undo()", 8).is("valueOf(0, 0)", 11).first("setKey(0, 0, 50)", "setKey(0, 0, 60)", "setKey(0, 0, 70)");
        int[] values = {60, 50, 11, 10, 9, 8, 7, 6, 5, 4};
        for (int i = 0; i < 10; i++) {
            run.is("undo()", 9 - i).is("valueOf(0, 0)", values[i]);
        }
        run.refuses(NONE, "undo()");
    }

    private static void undoOfEverything() {
        Run run = run("undo restores keys, modes, slopes, extrapolations, the map and the formula").type("7");
        run.first("setKey(0, 5, 6)", "setSlopes(0, 5, 7, 8)", "setExtrapolation(0, 3, 4)", "addPoint(1, 2)", "readFormula()");
        long before = run.checksum();
        run.type("1:2L;").first("clear(0)", "clearMap()", "setKey(3, 1, 1)", "addPoint(9, 8)", "readCurve(0)");
        run.type("b").first("readFormula()");
        for (int left = 9; left >= 5; left--) {
            run.is("undo()", left);
        }
        run.is("undo()", 4).is("checksum()", before).is("keys(0)", 1).is("slope(0, 0, true)", 8).is("mapped(1)", 2);
        run.is("mix(0)", 448).is("keys(3)", 0).is("setExtrapolation(0, 3, 4)", 34);
    }

    private static void orderOfTheChecks() {
        Run run = run("the order of the @return line is the order of the checks");
        for (int i = 0; i < 24; i++) {
            run.first("setKey(0, " + 20 * i + ", 1)");
        }
        for (int i = 1; i <= 8; i++) {
            run.first("addPoint(" + i + ", " + i + ")");
        }
        run.type("1".repeat(120));
        run.refuses(BAD_INDEX, "setKey(4, 481, 1000)", "moveKey(4, 0, 481)", "moveKey(0, 1, 481)", "moveKey(0, 1, 20)",
                "setMode(0, 1, 7)", "setSlopes(0, 1, 10000, 0)", "split(4, 0)", "setExtrapolation(4, 5, 5)", "value(4, 961)",
                "extreme(4, 5, 4, true)", "crossings(4, 5, 4, 1000)", "bake(4, 5, 4, 0)", "bakeFormula(4, 5, 4, 0)",
                "polyline(4, 5, 5, -1, -2)", "decimate(4, -1)", "readCurve(4)");
        run.refuses(BAD_VALUE, "setKey(0, 481, 0)", "setKey(0, 1, 1000)", "moveKey(0, 0, 481)", "split(0, 20)", "split(0, 461)",
                "value(1, 961)", "extreme(1, 5, 4, true)", "crossings(1, 5, 4, 0)", "crossings(1, 0, 0, 1000)", "addPoint(8, 9)",
                "addPoint(9, 8)", "addPoint(481, 481)", "bake(1, 5, 4, 1)", "bake(1, 0, 480, 0)", "bake(0, 1, 481, 1)",
                "bakeFormula(0, 1, 481, 1)", "polyline(1, 0, 41, 0, 0)", "polyline(1, 0, 1, 0, -2)", "append(128)", "append(-1)",
                "readCurve(0)");
        run.refuses(FULL, "setKey(0, 1, 0)", "split(0, 1)", "addPoint(9, 9)", "bake(0, 1, 2, 1)", "bakeFormula(0, 1, 2, 1)",
                "append(0)");
        run.refuses(NOT_POSSIBLE, "moveKey(0, 0, 20)", "bake(1, 0, 480, 1)", "polyline(1, 0, 1, 0, 9)");
    }

    private static void noneOnlyIfNoErrorApplies() {
        Run run = run("NONE is not an error and is returned only if no error applies");
        run.refuses(NONE, "value(0, 0)", "extreme(0, 0, 0, true)", "crossings(0, 0, 0, 0)", "undo()");
        run.refuses(BAD_VALUE, "value(0, -1)", "extreme(0, 1, 0, true)", "crossings(0, 0, 0, 1000)");
        run.refuses(BAD_INDEX, "value(4, 0)", "extreme(4, 0, 0, true)", "crossings(4, 0, 0, 0)");
        run.refuses(NOT_POSSIBLE, "polyline(0, 0, 1, 0, 2)").first("setKey(0, 0, 0)").refuses(NONE, "polyline(0, 0, 1, 0, 2)");
        run.refuses(BAD_VALUE, "polyline(0, 0, 0, 0, 2)", "polyline(0, 0, 1, 10000, 2)");
    }

    /** 31 * h + value for each value, with numbers of any length, and only then cut down to a long. */
    private static long summed(List<Long> values) {
        BigInteger h = BigInteger.valueOf(23);
        for (long value : values) {
            h = h.multiply(BigInteger.valueOf(31)).add(BigInteger.valueOf(value));
        }
        return h.longValue();
    }

    private static void add(List<Long> values, int count, long... next) {
        for (int i = 0; i < count; i++) {
            for (long value : next) {
                values.add(value);
            }
        }
    }

    private static void checksumOfANewObject() {
        List<Long> values = new ArrayList<>();
        add(values, 4, 0, 0);
        add(values, 1, 0);
        add(values, 17, 0);
        run("a checksum as longs, with overflow, of a new object").is("checksum()", summed(values));
    }

    private static void checksumOfNegativeNumbers() {
        Run run = run("a checksum of negative values, slopes and extrapolated values").first("setKey(2, 480, -999)");
        run.first("setSlopes(2, 480, -9999, 9999)", "setExtrapolation(2, 4, 1)").type("-999*999").first("readFormula()");
        List<Long> values = new ArrayList<>();
        add(values, 2, 0, 0);
        add(values, 1, 1, 480, -999, 0, -9999, 9999, 41);
        add(values, 17, -63936);
        add(values, 1, 0, 0);
        add(values, 1, 0);
        add(values, 17, -1000000);
        run.is("checksum()", summed(values));
    }

    private static void checksumOfAFullObject() {
        Run run = run("a checksum of four full curves and a full map").type("c").first("readFormula()");
        List<Long> values = new ArrayList<>();
        for (int c = 0; c < 4; c++) {
            add(values, 1, 24);
            for (int i = 0; i < 24; i++) {
                run.first("setKey(" + c + ", " + 20 * i + ", 999)");
                add(values, 1, 20 * i, 999, 3, 0, 0);
            }
            run.first("setExtrapolation(" + c + ", 4, " + c + ")");
            add(values, 1, 40 + c);
            add(values, 17, 63936);
        }
        add(values, 1, 8);
        for (int i = 0; i < 8; i++) {
            run.first("addPoint(" + 60 * i + ", " + (473 + i) + ")");
            add(values, 1, 60 * i, 473 + i);
        }
        add(values, 17, 63936);
        run.is("checksum()", summed(values));
    }

    /** The curve has 64 parts more at each frame, up to 960, so that other frames than those of the document would show. */
    private static void checksumFrames() {
        Run run = run("value() and mix() at the frames 0, 60, 120 and so on to 960").first("setKey(1, 0, 0)", "setKey(1, 480, 480)");
        run.first("setExtrapolation(1, 0, 1)").type("b@1").first("readFormula()");
        List<Long> values = new ArrayList<>();
        add(values, 1, 0, 0, 2, 0, 0, 3, 64, 64, 480, 480, 3, 64, 64, 1);
        for (int frame = 0; frame <= 960; frame += 60) {
            add(values, 1, 64 * frame);
        }
        add(values, 2, 0, 0);
        add(values, 1, 0);
        for (int frame = 0; frame <= 960; frame += 60) {
            add(values, 1, frame == 0 ? 0 : 64 * (frame - 1));
        }
        run.is("checksum()", summed(values));
    }

    private static void last512Calls() {
        Run run = run("an object is used for at most 512 calls");
        for (int i = 0; i < 501; i++) {
            run.is("setKey(0, " + i % 24 + ", " + (i - 250) + ")", Math.min(i + 1, 24));
        }
        for (int left = 9; left >= 1; left--) {
            run.is("undo()", left);
        }
        run.is("undo()", 0).is("undo()", NONE);
    }

    /** Full curves, formulas and texts, and the calls that have most to do. */
    private static void manyDearCalls() {
        KeyframeCurves x = new KeyframeCurves();
        for (char letter : ("a*b-c+d*" + "min(a,b)*" + "a+b*c-d*".repeat(12)).toCharArray()) {
            x.append(letter);
        }
        x.append('a');
        DUE.is("readFormula() of a long text", x.readFormula(), 55);
        for (int i = 0; i < 24; i++) {
            x.setKey(0, 20 * i, i % 3 * 333);
            x.setMode(0, 20 * i, 5);
            x.setKey(1, 20 * i, i % 2 == 0 ? 999 : -999);
        }
        long due = x.checksum();
        for (int i = 0; i < 50; i++) {
            DUE.is("decimate(1, 9999) number " + i, x.decimate(1, 9999), 0);
            x.mean(0, 0, 960);
            x.extreme(1, 0, 960, true);
            DUE.is("polyline(1, 0, 40, 0, 0)", x.polyline(1, 0, 40, 0, 0), 0);
            x.bakeFormula(2, 0, 480, 21);
            DUE.is("undo()", x.undo(), 9);
            DUE.is("checksum() number " + i, x.checksum(), due);
        }
    }
}
