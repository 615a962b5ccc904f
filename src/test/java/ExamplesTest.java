/** The five examples of the document's description, each on a new object. */
public final class ExamplesTest {
    private static final Due DUE = new Due("ExamplesTest");

    public static void main(String[] args) {
        slopesAndPlateau();
        extrapolations();
        splitAndRemoved();
        moved();
        formula();
        DUE.finish();
    }

    private static void slopesAndPlateau() {
        KeyframeCurves x = new KeyframeCurves();
        DUE.is("setKey(0, 0, 0)", x.setKey(0, 0, 0), 1);
        DUE.is("setKey(0, 10, 100)", x.setKey(0, 10, 100), 2);
        DUE.is("setKey(0, 20, 0)", x.setKey(0, 20, 0), 3);
        DUE.is("slope(0, 1, true)", x.slope(0, 1, true), 0);
        DUE.is("value(0, 5)", x.value(0, 5), 4000);
        DUE.is("setMode(0, 10, 2)", x.setMode(0, 10, 2), 3);
        DUE.is("slope(0, 1, false)", x.slope(0, 1, false), 640);
        DUE.is("slope(0, 1, true)", x.slope(0, 1, true), -640);
        DUE.is("value(0, 5)", x.value(0, 5), 3200);
        DUE.isDouble("units(0, 25)", x.units(0, 25), 0.0);
        DUE.is("value(0, 961)", x.value(0, 961), -1000000002);
        DUE.is("value(1, 0)", x.value(1, 0), -1000000005);
    }

    private static void extrapolations() {
        KeyframeCurves x = new KeyframeCurves();
        DUE.is("setKey(0, 10, 1)", x.setKey(0, 10, 1), 1);
        DUE.is("setKey(0, 20, 3)", x.setKey(0, 20, 3), 2);
        DUE.is("setExtrapolation(0, 0, 4)", x.setExtrapolation(0, 0, 4), 0);
        DUE.is("value(0, 30)", x.value(0, 30), 320);
        DUE.is("setExtrapolation(0, 0, 3)", x.setExtrapolation(0, 0, 3), 4);
        DUE.is("value(0, 30)", x.value(0, 30), 64);
        DUE.is("setExtrapolation(0, 0, 2)", x.setExtrapolation(0, 0, 2), 3);
        DUE.is("value(0, 30)", x.value(0, 30), 64);
        DUE.is("setExtrapolation(0, 0, 1)", x.setExtrapolation(0, 0, 1), 2);
        DUE.is("value(0, 22)", x.value(0, 22), 218);
        DUE.is("value(0, 9)", x.value(0, 9), 64);
    }

    private static void splitAndRemoved() {
        KeyframeCurves x = new KeyframeCurves();
        DUE.is("setKey(2, 0, 0)", x.setKey(2, 0, 0), 1);
        DUE.is("setKey(2, 9, 9)", x.setKey(2, 9, 9), 2);
        DUE.is("setKey(2, 18, 0)", x.setKey(2, 18, 0), 3);
        DUE.is("split(2, 4)", x.split(2, 4), 1);
        DUE.is("valueOf(2, 1)", x.valueOf(2, 1), 5);
        DUE.is("slope(2, 1, true)", x.slope(2, 1, true), 82);
        DUE.is("modeOf(2, 0)", x.modeOf(2, 0), 0);
        DUE.is("decimate(2, 64)", x.decimate(2, 64), 1);
        DUE.is("keys(2)", x.keys(2), 3);
        DUE.is("polyline(2, 0, 18, 64, -1)", x.polyline(2, 0, 18, 64, -1), 4);
        DUE.is("polyline(2, 0, 18, 64, 1)", x.polyline(2, 0, 18, 64, 1), 7);
        DUE.is("undo()", x.undo(), 4);
    }

    private static void moved() {
        KeyframeCurves x = new KeyframeCurves();
        DUE.is("addPoint(0, 0)", x.addPoint(0, 0), 1);
        DUE.is("addPoint(10, 30)", x.addPoint(10, 30), 2);
        DUE.is("addPoint(10, 40)", x.addPoint(10, 40), -1000000002);
        DUE.is("mapped(3)", x.mapped(3), 9);
        DUE.is("mapped(15)", x.mapped(15), 35);
        DUE.is("setKey(3, 5, 1)", x.setKey(3, 5, 1), 1);
        DUE.is("setSlopes(3, 5, 30, 30)", x.setSlopes(3, 5, 30, 30), 3);
        DUE.is("retime(3)", x.retime(3), 1);
        DUE.is("frameOf(3, 0)", x.frameOf(3, 0), 15);
        DUE.is("slope(3, 0, false)", x.slope(3, 0, false), 10);
    }

    private static void formula() {
        KeyframeCurves x = new KeyframeCurves();
        DUE.is("setKey(0, 0, 5)", x.setKey(0, 0, 5), 1);
        DUE.is("append(97)", x.append(97), 1);
        DUE.is("append(42)", x.append(42), 2);
        DUE.is("append(45)", x.append(45), 3);
        DUE.is("append(50)", x.append(50), 4);
        DUE.is("append(43)", x.append(43), 5);
        DUE.is("append(55)", x.append(55), 6);
        DUE.is("readFormula()", x.readFormula(), 3);
        DUE.is("mix(9)", x.mix(9), -192);
        DUE.is("append(45)", x.append(45), 7);
        DUE.is("faultPosition(true)", x.faultPosition(true), 7);
        DUE.is("readFormula()", x.readFormula(), -1000000002);
        DUE.is("faultPosition(false)", x.faultPosition(false), 0);
        DUE.is("mix(961)", x.mix(961), -1000000002);
    }
}
