/** Each call, in several states, with all mixtures of fair, edge and wild arguments: none throws, and an error changes nothing. */
public final class WildCallsTest {
    private static final Due DUE = new Due("WildCallsTest");
    private static final int[] CURVES = {Integer.MIN_VALUE, -1, 0, 1, 3, 4, Integer.MAX_VALUE};
    private static final int[] NUMBERS = {Integer.MIN_VALUE, Integer.MIN_VALUE + 1, -10000, -1000, -2, -1, 0, 1, 7, 23, 24, 40, 41,
        120, 127, 128, 480, 481, 920, 960, 961, 9999, 10000, Integer.MAX_VALUE - 1, Integer.MAX_VALUE};
    private static final int[] FEW = {Integer.MIN_VALUE, -1, 0, 3, 30, 480, 960, 961, Integer.MAX_VALUE};
    private static final String[] TEXTS = {"", "a@9*-b+max(2,c)", "1:2,40:-900L,90:7H,480:999;", "((((((((((", "999999", "m"};

    private KeyframeCurves x;
    private int state;
    private int calls;

    private interface Call {
        long made(KeyframeCurves x);
    }

    public static void main(String[] args) {
        for (int state = 0; state < 6; state++) {
            WildCallsTest test = new WildCallsTest();
            test.state = state;
            test.renew();
            test.callAll();
        }
        DUE.finish();
    }

    /** An object is used for 512 calls at most, so that it must be made anew at times. */
    private void renew() {
        x = new KeyframeCurves();
        calls = 40;
        type(TEXTS[state]);
        if (state % 3 == 1) {
            x.setKey(0, 40, 999);
        }
        if (state % 3 == 2) {
            for (int i = 0; i < 24; i++) {
                x.setKey(0, 20 * i + 3, i % 2 == 0 ? 999 : -999);
            }
            x.setExtrapolation(0, 4, 1);
            x.setKey(1, 0, -999);
            x.setKey(1, 1, 999);
            x.setExtrapolation(1, 1, 4);
            x.setSlopes(1, 0, 9999, -9999);
            for (int i = 0; i < 8; i++) {
                x.addPoint(i, 50 * i);
            }
            x.readCurve(3);
            x.readFormula();
            calls += 60;
        }
    }

    private void type(String text) {
        for (int i = 0; i < text.length(); i++) {
            x.append(text.charAt(i));
            calls++;
        }
    }

    private void wild(String name, Call call) {
        if (calls > 500) {
            renew();
        }
        calls += 3;
        long before = x.checksum();
        try {
            long answer = call.made(x);
            if (answer <= -1000000001 && answer >= -1000000005) {
                DUE.is(name + ": checksum() after the error " + answer, x.checksum(), before);
            }
        } catch (RuntimeException | Error thrown) {
            DUE.holds(name + " threw " + thrown + ", which", false);
        }
    }

    private void callAll() {
        for (int c : CURVES) {
            wild("clear", x -> x.clear(c));
            wild("keys", x -> x.keys(c));
            wild("retime", x -> x.retime(c));
            wild("readCurve", x -> x.readCurve(c));
            for (int a : NUMBERS) {
                callWithTwo(c, a);
                for (int b : NUMBERS) {
                    callWithThree(c, a, b);
                }
            }
            for (int a : FEW) {
                for (int b : FEW) {
                    for (int d : FEW) {
                        callWithFour(c, a, b, d);
                    }
                }
            }
        }
        for (int a : NUMBERS) {
            wild("mapped", x -> x.mapped(a));
            wild("append", x -> x.append(a));
            wild("mix", x -> x.mix(a));
            for (int b : NUMBERS) {
                wild("addPoint", x -> x.addPoint(a, b));
            }
        }
        wild("clearMap", x -> x.clearMap());
        wild("faultPosition(true)", x -> x.faultPosition(true));
        wild("faultPosition(false)", x -> x.faultPosition(false));
        wild("readFormula", x -> x.readFormula());
        wild("clearText", x -> x.clearText());
        for (int i = 0; i < 12; i++) {
            wild("undo", x -> x.undo());
        }
    }

    private void callWithTwo(int c, int a) {
        wild("removeKey", x -> x.removeKey(c, a));
        wild("split", x -> x.split(c, a));
        wild("frameOf", x -> x.frameOf(c, a));
        wild("valueOf", x -> x.valueOf(c, a));
        wild("modeOf", x -> x.modeOf(c, a));
        wild("slope in", x -> x.slope(c, a, false));
        wild("slope out", x -> x.slope(c, a, true));
        wild("value", x -> x.value(c, a));
        wild("units", x -> (long) x.units(c, a));
        wild("decimate", x -> x.decimate(c, a));
    }

    private void callWithThree(int c, int a, int b) {
        wild("setKey", x -> x.setKey(c, a, b));
        wild("moveKey", x -> x.moveKey(c, a, b));
        wild("setMode", x -> x.setMode(c, a, b));
        wild("setExtrapolation", x -> x.setExtrapolation(c, a, b));
        wild("mean", x -> (long) x.mean(c, a, b));
        wild("extreme", x -> x.extreme(c, a, b, true));
        wild("extreme", x -> x.extreme(c, a, b, false));
    }

    private void callWithFour(int c, int a, int b, int d) {
        wild("setSlopes", x -> x.setSlopes(c, a, b, d));
        wild("crossings", x -> x.crossings(c, a, b, d));
        wild("bake", x -> x.bake(c, a, b, d));
        wild("bakeFormula", x -> x.bakeFormula(c, a, b, d));
        wild("polyline", x -> x.polyline(c, a, b, d, -1));
        wild("polyline", x -> x.polyline(c, a, a + 40, b, d));
    }
}
