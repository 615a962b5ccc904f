/** Promises 20 to 25: the map, retimed curves and baked ones. */
public final class RetimingTest {
    private static final Due DUE = new Due("RetimingTest");
    private static final int BAD_INDEX = KeyframeCurves.BAD_INDEX;
    private static final int BAD_VALUE = KeyframeCurves.BAD_VALUE;
    private static final int FULL = KeyframeCurves.FULL;
    private static final int NOT_POSSIBLE = KeyframeCurves.NOT_POSSIBLE;

    public static void main(String[] args) {
        addPoint();
        addPointFull();
        clearMap();
        mapped();
        mappedIsRounded();
        retime();
        retimeSlopes();
        retimeSlopesAreClamped();
        retimeErrors();
        bake();
        bakeExtrapolated();
        bakeIsRoundedAndClamped();
        bakeErrors();
        bakeFormula();
        bakeFormulaOfTheOldCurve();
        bakeFormulaErrors();
        DUE.finish();
    }

    private static void addPoint() {
        KeyframeCurves x = new KeyframeCurves();
        DUE.is("addPoint(481, 0)", x.addPoint(481, 0), BAD_VALUE);
        DUE.is("addPoint(-1, 0)", x.addPoint(-1, 0), BAD_VALUE);
        DUE.is("addPoint(0, 481)", x.addPoint(0, 481), BAD_VALUE);
        DUE.is("addPoint(0, -1)", x.addPoint(0, -1), BAD_VALUE);
        DUE.is("addPoint(0, 480)", x.addPoint(0, 480), 1);
        DUE.is("addPoint(1, 480)", x.addPoint(1, 480), BAD_VALUE);
        x.clearMap();
        DUE.is("addPoint(10, 20)", x.addPoint(10, 20), 1);
        DUE.is("addPoint(10, 21)", x.addPoint(10, 21), BAD_VALUE);
        DUE.is("addPoint(11, 20)", x.addPoint(11, 20), BAD_VALUE);
        DUE.is("addPoint(9, 30)", x.addPoint(9, 30), BAD_VALUE);
        DUE.is("addPoint(30, 19)", x.addPoint(30, 19), BAD_VALUE);
        DUE.is("addPoint(11, 21)", x.addPoint(11, 21), 2);
        DUE.is("addPoint(480, 480)", x.addPoint(480, 480), 3);
        DUE.is("undo()", x.undo(), 4);
        DUE.is("addPoint(480, 479)", x.addPoint(480, 479), 3);
    }

    private static void addPointFull() {
        KeyframeCurves x = new KeyframeCurves();
        for (int i = 1; i <= 8; i++) {
            DUE.is("addPoint number " + i, x.addPoint(10 * i, 20 * i), i);
        }
        long before = x.checksum();
        DUE.is("addPoint(90, 180)", x.addPoint(90, 180), FULL);
        DUE.is("addPoint(80, 180)", x.addPoint(80, 180), BAD_VALUE);
        DUE.is("addPoint(90, 160)", x.addPoint(90, 160), BAD_VALUE);
        DUE.is("addPoint(481, 480)", x.addPoint(481, 480), BAD_VALUE);
        DUE.is("checksum() after errors", x.checksum(), before);
        DUE.is("mapped(75)", x.mapped(75), 150);
    }

    private static void clearMap() {
        KeyframeCurves x = new KeyframeCurves();
        x.addPoint(100, 40);
        x.addPoint(200, 340);
        DUE.is("clearMap()", x.clearMap(), 2);
        DUE.is("mapped(150)", x.mapped(150), 150);
        DUE.is("clearMap() again", x.clearMap(), 0);
        DUE.is("undo()", x.undo(), 3);
        DUE.is("undo()", x.undo(), 2);
        DUE.is("mapped(150) after undo", x.mapped(150), 190);
        x.clearMap();
        x.addPoint(5, 10);
        x.addPoint(6, 20);
        DUE.is("undo()", x.undo(), 4);
        DUE.is("undo()", x.undo(), 3);
        DUE.is("undo()", x.undo(), 2);
        DUE.is("mapped(150) after new points and undo", x.mapped(150), 190);
        DUE.is("mapped(0) after new points and undo", x.mapped(0), -60);
    }

    private static void mapped() {
        KeyframeCurves x = new KeyframeCurves();
        DUE.is("mapped(0)", x.mapped(0), 0);
        DUE.is("mapped(480)", x.mapped(480), 480);
        DUE.is("mapped(481)", x.mapped(481), BAD_VALUE);
        DUE.is("mapped(-1)", x.mapped(-1), BAD_VALUE);
        x.addPoint(100, 40);
        DUE.is("mapped(0) with a point", x.mapped(0), -60);
        DUE.is("mapped(100) with a point", x.mapped(100), 40);
        DUE.is("mapped(480) with a point", x.mapped(480), 420);
        x.addPoint(200, 340);
        x.addPoint(300, 345);
        DUE.is("mapped(99)", x.mapped(99), 39);
        DUE.is("mapped(100)", x.mapped(100), 40);
        DUE.is("mapped(101)", x.mapped(101), 43);
        DUE.is("mapped(199)", x.mapped(199), 337);
        DUE.is("mapped(200)", x.mapped(200), 340);
        DUE.is("mapped(220)", x.mapped(220), 341);
        DUE.is("mapped(300)", x.mapped(300), 345);
        DUE.is("mapped(301)", x.mapped(301), 346);
        DUE.is("mapped(480)", x.mapped(480), 525);
    }

    private static void mappedIsRounded() {
        KeyframeCurves x = new KeyframeCurves();
        x.addPoint(0, 10);
        x.addPoint(4, 11);
        DUE.is("mapped(1)", x.mapped(1), 10);
        DUE.is("mapped(2)", x.mapped(2), 11);
        DUE.is("mapped(3)", x.mapped(3), 11);
    }

    private static void retime() {
        KeyframeCurves x = new KeyframeCurves();
        x.addPoint(0, 0);
        x.addPoint(100, 100);
        x.addPoint(200, 300);
        DUE.is("retime(0) without keys", x.retime(0), 0);
        x.setKey(0, 50, 1);
        x.setKey(0, 150, 2);
        x.setKey(0, 210, 3);
        x.setMode(0, 210, 6);
        x.setExtrapolation(0, 1, 2);
        DUE.is("retime(0)", x.retime(0), 2);
        DUE.is("frameOf(0, 0)", x.frameOf(0, 0), 50);
        DUE.is("frameOf(0, 1)", x.frameOf(0, 1), 200);
        DUE.is("frameOf(0, 2)", x.frameOf(0, 2), 310);
        DUE.is("valueOf(0, 1)", x.valueOf(0, 1), 2);
        DUE.is("modeOf(0, 1)", x.modeOf(0, 1), 3);
        DUE.is("modeOf(0, 2)", x.modeOf(0, 2), 6);
        DUE.is("undo()", x.undo(), 9);
        DUE.is("frameOf(0, 2) after undo", x.frameOf(0, 2), 210);
        DUE.is("setExtrapolation(0, 0, 0)", x.setExtrapolation(0, 0, 0), 12);
        x.clearMap();
        DUE.is("retime(0) without points", x.retime(0), 0);
    }

    /** Slopes at frames before, at, between and behind the source frames 100, 200 and 300. */
    private static void retimeSlopes() {
        KeyframeCurves x = new KeyframeCurves();
        x.addPoint(100, 50);
        x.addPoint(200, 250);
        x.addPoint(300, 260);
        for (int frame : new int[] {99, 100, 150, 200, 250, 300, 301}) {
            x.setKey(0, frame, 5);
            x.setSlopes(0, frame, 31, -31);
        }
        DUE.is("retime(0)", x.retime(0), 6);
        keyIs(x, 0, 49, 31, -31);
        keyIs(x, 1, 50, 31, -15);
        keyIs(x, 2, 150, 16, -15);
        keyIs(x, 3, 250, 16, -310);
        keyIs(x, 4, 255, 310, -310);
        keyIs(x, 5, 260, 310, -31);
        keyIs(x, 6, 261, 31, -31);
    }

    private static void keyIs(KeyframeCurves x, int key, int frame, int in, int out) {
        DUE.is("frameOf(0, " + key + ")", x.frameOf(0, key), frame);
        DUE.is("slope(0, " + key + ", false)", x.slope(0, key, false), in);
        DUE.is("slope(0, " + key + ", true)", x.slope(0, key, true), out);
    }

    private static void retimeSlopesAreClamped() {
        KeyframeCurves x = new KeyframeCurves();
        x.addPoint(0, 0);
        x.addPoint(100, 10);
        x.setKey(0, 50, 5);
        x.setSlopes(0, 50, 1000, -1000);
        x.setKey(0, 60, 5);
        x.setSlopes(0, 60, 999, -999);
        x.retime(0);
        keyIs(x, 0, 5, 9999, -9999);
        keyIs(x, 1, 6, 9990, -9990);
    }

    private static void retimeErrors() {
        KeyframeCurves x = new KeyframeCurves();
        x.setKey(0, 4, 1);
        x.setKey(0, 5, 2);
        x.setKey(1, 0, 1);
        x.setKey(2, 480, 1);
        x.addPoint(1, 0);
        x.addPoint(101, 10);
        x.addPoint(400, 401);
        long before = x.checksum();
        DUE.is("retime(4)", x.retime(4), BAD_INDEX);
        DUE.is("retime(-1)", x.retime(-1), BAD_INDEX);
        DUE.is("retime(0), two keys at a frame", x.retime(0), NOT_POSSIBLE);
        DUE.is("retime(1), before the first frame", x.retime(1), NOT_POSSIBLE);
        DUE.is("retime(2), behind the last frame", x.retime(2), NOT_POSSIBLE);
        DUE.is("checksum() after errors", x.checksum(), before);
        DUE.is("undo() after errors", x.undo(), 6);
        x.setKey(0, 479, 3);
        DUE.is("moveKey(1, 0, 1)", x.moveKey(1, 0, 1), 0);
        DUE.is("retime(1), to frame 0", x.retime(1), 1);
        DUE.is("frameOf(1, 0)", x.frameOf(1, 0), 0);
    }

    private static KeyframeCurves slanted() {
        KeyframeCurves x = new KeyframeCurves();
        x.setKey(0, 10, 0);
        x.setKey(0, 20, 100);
        x.setKey(0, 30, 50);
        x.setMode(0, 10, 2);
        x.setMode(0, 20, 2);
        x.setMode(0, 30, 2);
        return x;
    }

    private static void bake() {
        KeyframeCurves x = slanted();
        x.setMode(0, 30, 6);
        DUE.is("bake(0, 12, 20, 3)", x.bake(0, 12, 20, 3), 5);
        bakedKeyIs(x, 0, 10, 0, 2);
        bakedKeyIs(x, 1, 12, 20, 2);
        bakedKeyIs(x, 2, 15, 50, 2);
        bakedKeyIs(x, 3, 18, 80, 2);
        bakedKeyIs(x, 4, 30, 50, 6);
        DUE.is("undo()", x.undo(), 7);
        DUE.is("bake(0, 11, 19, 8) between two keys", x.bake(0, 11, 19, 8), 5);
        DUE.is("undo()", x.undo(), 7);
        DUE.is("keys(0) after undo", x.keys(0), 3);
        x.setExtrapolation(0, 2, 3);
        DUE.is("bake(0, 10, 30, 10)", x.bake(0, 10, 30, 10), 3);
        bakedKeyIs(x, 2, 30, 50, 2);
        DUE.is("bake(0, 20, 20, 480)", x.bake(0, 20, 20, 480), 3);
        DUE.is("setExtrapolation(0, 0, 0)", x.setExtrapolation(0, 0, 0), 23);
        DUE.is("bake(0, 11, 30, 19)", x.bake(0, 11, 30, 19), 3);
        bakedKeyIs(x, 1, 11, 10, 2);
        bakedKeyIs(x, 2, 30, 50, 2);
    }

    private static void bakedKeyIs(KeyframeCurves x, int key, int frame, int value, int mode) {
        DUE.is("frameOf(0, " + key + ")", x.frameOf(0, key), frame);
        DUE.is("valueOf(0, " + key + ")", x.valueOf(0, key), value);
        DUE.is("modeOf(0, " + key + ")", x.modeOf(0, key), mode);
    }

    private static void bakeExtrapolated() {
        KeyframeCurves x = slanted();
        x.setExtrapolation(0, 1, 4);
        DUE.is("bake(0, 5, 45, 20)", x.bake(0, 5, 45, 20), 3);
        bakedKeyIs(x, 0, 5, -50, 2);
        bakedKeyIs(x, 1, 25, 75, 2);
        bakedKeyIs(x, 2, 45, 125, 2);
    }

    private static void bakeIsRoundedAndClamped() {
        KeyframeCurves x = new KeyframeCurves();
        x.setKey(0, 0, 0);
        x.setKey(0, 2, 1);
        x.bake(0, 1, 1, 1);
        bakedKeyIs(x, 1, 1, 1, 2);
        x.clear(0);
        x.setKey(0, 0, 0);
        x.setKey(0, 2, -1);
        x.bake(0, 1, 1, 1);
        bakedKeyIs(x, 1, 1, 0, 2);
        x.clear(0);
        x.setKey(0, 0, 0);
        x.setKey(0, 10, 100);
        x.setExtrapolation(0, 0, 1);
        x.bake(0, 200, 200, 1);
        bakedKeyIs(x, 2, 200, 999, 2);
        x.setKey(0, 10, -100);
        x.setMode(0, 10, 2);
        x.setKey(0, 200, -999);
        x.setMode(0, 200, 2);
        x.bake(0, 480, 480, 1);
        bakedKeyIs(x, 3, 480, -999, 2);
    }

    private static void bakeErrors() {
        KeyframeCurves x = slanted();
        long before = x.checksum();
        DUE.is("bake(4, 5, 4, 0)", x.bake(4, 5, 4, 0), BAD_INDEX);
        DUE.is("bake(-1, 0, 4, 1)", x.bake(-1, 0, 4, 1), BAD_INDEX);
        DUE.is("bake(1, 5, 4, 1)", x.bake(1, 5, 4, 1), BAD_VALUE);
        DUE.is("bake(0, -1, 4, 1)", x.bake(0, -1, 4, 1), BAD_VALUE);
        DUE.is("bake(0, 0, 481, 480)", x.bake(0, 0, 481, 480), BAD_VALUE);
        DUE.is("bake(0, 481, 481, 1)", x.bake(0, 481, 481, 1), BAD_VALUE);
        DUE.is("bake(0, 0, 4, 0)", x.bake(0, 0, 4, 0), BAD_VALUE);
        DUE.is("bake(0, 0, 4, -1)", x.bake(0, 0, 4, -1), BAD_VALUE);
        DUE.is("bake(0, 0, 4, 481)", x.bake(0, 0, 4, 481), BAD_VALUE);
        DUE.is("bake(1, 0, 480, 1)", x.bake(1, 0, 480, 1), KeyframeCurves.NOT_POSSIBLE);
        DUE.is("bake(0, 0, 480, 1)", x.bake(0, 0, 480, 1), FULL);
        DUE.is("bake(0, 100, 122, 1)", x.bake(0, 100, 122, 1), FULL);
        DUE.is("bake(0, 100, 121, 1)", x.bake(0, 100, 121, 1), FULL);
        DUE.is("checksum() after errors", x.checksum(), before);
        DUE.is("bake(0, 100, 120, 1)", x.bake(0, 100, 120, 1), 24);
        DUE.is("bake(0, 97, 120, 1)", x.bake(0, 97, 120, 1), FULL);
        DUE.is("bake(0, 31, 32, 1)", x.bake(0, 31, 32, 1), FULL);
        DUE.is("bake(0, 29, 29, 1)", x.bake(0, 29, 29, 1), FULL);
        DUE.is("bake(0, 28, 29, 1)", x.bake(0, 28, 29, 1), FULL);
        DUE.is("bakeFormula(0, 29, 29, 1)", x.bakeFormula(0, 29, 29, 1), FULL);
        DUE.is("bake(0, 10, 33, 1)", x.bake(0, 10, 33, 1), FULL);
        DUE.is("bake(0, 100, 120, 1) again", x.bake(0, 100, 120, 1), 24);
        DUE.is("bake(0, 0, 480, 21)", x.bake(0, 0, 480, 21), 23);
        DUE.is("bake(0, 0, 460, 20) beside the key at 462", x.bake(0, 0, 460, 20), FULL);
        DUE.is("bake(0, 0, 462, 20)", x.bake(0, 0, 462, 20), 24);
    }

    private static void formulaIs(KeyframeCurves x, String text) {
        x.clearText();
        for (int i = 0; i < text.length(); i++) {
            x.append(text.charAt(i));
        }
        DUE.is("faultPosition(true) of " + text, x.faultPosition(true), KeyframeCurves.NONE);
        x.readFormula();
    }

    private static void bakeFormula() {
        KeyframeCurves x = slanted();
        x.setExtrapolation(0, 2, 3);
        DUE.is("bakeFormula(0, 15, 25, 5)", x.bakeFormula(0, 15, 25, 5), 5);
        bakedKeyIs(x, 1, 15, 0, 2);
        bakedKeyIs(x, 2, 20, 0, 2);
        bakedKeyIs(x, 3, 25, 0, 2);
        DUE.is("undo()", x.undo(), 7);
        bakedKeyIs(x, 1, 20, 100, 2);
        DUE.is("setExtrapolation(0, 0, 0)", x.setExtrapolation(0, 0, 0), 23);
        formulaIs(x, "a+7");
        x.setKey(1, 300, 3);
        DUE.is("bakeFormula(1, 20, 30, 5)", x.bakeFormula(1, 20, 30, 5), 4);
        DUE.is("valueOf(1, 0)", x.valueOf(1, 0), 107);
        DUE.is("valueOf(1, 1)", x.valueOf(1, 1), 82);
        DUE.is("valueOf(1, 2)", x.valueOf(1, 2), 57);
        DUE.is("valueOf(1, 3)", x.valueOf(1, 3), 3);
        DUE.is("modeOf(1, 2)", x.modeOf(1, 2), 2);
        formulaIs(x, "-999*9");
        DUE.is("bakeFormula(2, 480, 480, 1)", x.bakeFormula(2, 480, 480, 1), 1);
        DUE.is("valueOf(2, 0)", x.valueOf(2, 0), -999);
        formulaIs(x, "999+1");
        x.bakeFormula(2, 480, 480, 1);
        DUE.is("valueOf(2, 0)", x.valueOf(2, 0), 999);
    }

    /** The formula looks back at the very curve that gets the keys. */
    private static void bakeFormulaOfTheOldCurve() {
        KeyframeCurves x = slanted();
        formulaIs(x, "a@5+1");
        DUE.is("bakeFormula(0, 10, 30, 5)", x.bakeFormula(0, 10, 30, 5), 5);
        bakedKeyIs(x, 0, 10, 1, 2);
        bakedKeyIs(x, 1, 15, 1, 2);
        bakedKeyIs(x, 2, 20, 51, 2);
        bakedKeyIs(x, 3, 25, 101, 2);
        bakedKeyIs(x, 4, 30, 76, 2);
    }

    private static void bakeFormulaErrors() {
        KeyframeCurves x = slanted();
        long before = x.checksum();
        DUE.is("bakeFormula(4, 5, 4, 0)", x.bakeFormula(4, 5, 4, 0), BAD_INDEX);
        DUE.is("bakeFormula(-1, 0, 4, 1)", x.bakeFormula(-1, 0, 4, 1), BAD_INDEX);
        DUE.is("bakeFormula(0, 5, 4, 1)", x.bakeFormula(0, 5, 4, 1), BAD_VALUE);
        DUE.is("bakeFormula(0, -1, 4, 1)", x.bakeFormula(0, -1, 4, 1), BAD_VALUE);
        DUE.is("bakeFormula(0, 0, 481, 480)", x.bakeFormula(0, 0, 481, 480), BAD_VALUE);
        DUE.is("bakeFormula(0, 0, 4, 0)", x.bakeFormula(0, 0, 4, 0), BAD_VALUE);
        DUE.is("bakeFormula(0, 0, 4, 481)", x.bakeFormula(0, 0, 4, 481), BAD_VALUE);
        DUE.is("bakeFormula(1, 0, 24, 1)", x.bakeFormula(1, 0, 24, 1), FULL);
        DUE.is("bakeFormula(0, 100, 121, 1)", x.bakeFormula(0, 100, 121, 1), FULL);
        DUE.is("checksum() after errors", x.checksum(), before);
        DUE.is("bakeFormula(1, 0, 23, 1)", x.bakeFormula(1, 0, 23, 1), 24);
        DUE.is("bakeFormula(0, 100, 120, 1)", x.bakeFormula(0, 100, 120, 1), 24);
    }
}
