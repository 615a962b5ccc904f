/** Promises 15 to 19: evaluation between, before and behind the keys. */
public final class EvaluationTest {
    private static final Due DUE = new Due("EvaluationTest");
    private static final int BAD_INDEX = KeyframeCurves.BAD_INDEX;
    private static final int BAD_VALUE = KeyframeCurves.BAD_VALUE;
    private static final int NONE = KeyframeCurves.NONE;

    public static void main(String[] args) {
        between();
        betweenIsRounded();
        hold();
        oneKey();
        constant();
        slope();
        cycle();
        bounce();
        offset();
        sidesAreApart();
        greatest();
        valueErrors();
        units();
        mean();
        extreme();
        crossings();
        DUE.finish();
    }

    private static void valueIs(KeyframeCurves x, int frame, int want) {
        DUE.is("value(0, " + frame + ")", x.value(0, frame), want);
    }

    /** The keys (10, 1) and (20, 3); their slopes are 13. */
    private static KeyframeCurves rising(int before, int after) {
        KeyframeCurves x = new KeyframeCurves();
        x.setKey(0, 10, 1);
        x.setKey(0, 20, 3);
        x.setExtrapolation(0, before, after);
        return x;
    }

    private static void between() {
        KeyframeCurves x = rising(0, 0);
        valueIs(x, 10, 64);
        valueIs(x, 11, 77);
        valueIs(x, 15, 128);
        valueIs(x, 19, 179);
        valueIs(x, 20, 192);
        x.setSlopes(0, 10, 1000, -100);
        x.setSlopes(0, 20, 50, 1000);
        // 64 * 896 + 192 * 104 - 1000 * 128 + 500 * -32 = -66688, in thousandths
        valueIs(x, 12, -67);
        // 64 * 500 + 192 * 500 - 1000 * 125 - 500 * 125 = -59500, of two the greater one
        valueIs(x, 15, -59);
    }

    private static void betweenIsRounded() {
        KeyframeCurves x = new KeyframeCurves();
        x.setKey(0, 0, 0);
        x.setKey(0, 2, 0);
        x.setSlopes(0, 0, 0, 2);
        // 2 * 2 * (1 - 4 + 4) = 4 of 8: a half goes up
        valueIs(x, 1, 1);
        x.setSlopes(0, 0, 0, -2);
        valueIs(x, 1, 0);
        x.setSlopes(0, 0, 0, -3);
        valueIs(x, 1, -1);
    }

    private static void hold() {
        KeyframeCurves x = rising(2, 2);
        x.setMode(0, 10, 6);
        valueIs(x, 10, 64);
        valueIs(x, 19, 64);
        valueIs(x, 20, 192);
        valueIs(x, 21, 64);
        x.setMode(0, 10, 2);
        x.setMode(0, 20, 6);
        // 64 * 500 + 192 * 500 + 130 * 125: the in slope of HOLD is 0
        valueIs(x, 15, 144);
    }

    private static void oneKey() {
        KeyframeCurves x = new KeyframeCurves();
        x.setKey(0, 100, -7);
        x.setSlopes(0, 100, 50, 60);
        for (int kind = 0; kind <= 4; kind++) {
            x.setExtrapolation(0, kind, kind);
            valueIs(x, 0, -448);
            valueIs(x, 100, -448);
            valueIs(x, 960, -448);
        }
    }

    private static void constant() {
        KeyframeCurves x = rising(0, 0);
        valueIs(x, 0, 64);
        valueIs(x, 9, 64);
        valueIs(x, 21, 192);
        valueIs(x, 960, 192);
    }

    private static void slope() {
        KeyframeCurves x = rising(1, 1);
        valueIs(x, 9, 51);
        valueIs(x, 0, -66);
        valueIs(x, 22, 218);
        valueIs(x, 960, 12412);
        x.setSlopes(0, 10, 7, 100);
        x.setSlopes(0, 20, 100, -9);
        valueIs(x, 8, 50);
        valueIs(x, 30, 102);
    }

    private static void cycle() {
        KeyframeCurves x = rising(2, 2);
        valueIs(x, 9, 179);
        valueIs(x, 0, 64);
        valueIs(x, 5, 128);
        valueIs(x, 21, 77);
        valueIs(x, 29, 179);
        valueIs(x, 30, 64);
        valueIs(x, 955, 128);
        foldedFromAnyStart(2, 13, 23, 128);
        foldedFromAnyStart(2, 14, 24, 141);
    }

    /** The keys (8, 1) and (18, 3): frames before, and frames behind, that lie at the same place. */
    private static void foldedFromAnyStart(int kind, int inner, int outer, int want) {
        KeyframeCurves x = new KeyframeCurves();
        x.setKey(0, 8, 1);
        x.setKey(0, 18, 3);
        x.setExtrapolation(0, kind, kind);
        valueIs(x, inner, want);
        valueIs(x, outer, want);
    }

    private static void bounce() {
        KeyframeCurves x = rising(3, 3);
        valueIs(x, 9, 77);
        valueIs(x, 1, 179);
        valueIs(x, 0, 192);
        valueIs(x, 21, 179);
        valueIs(x, 29, 77);
        valueIs(x, 30, 64);
        valueIs(x, 31, 77);
        valueIs(x, 40, 192);
        valueIs(x, 41, 179);
        foldedFromAnyStart(3, 13, 23, 128);
        foldedFromAnyStart(3, 14, 22, 141);
    }

    private static void offset() {
        KeyframeCurves x = rising(4, 4);
        valueIs(x, 9, 51);
        valueIs(x, 0, -64);
        valueIs(x, 21, 205);
        valueIs(x, 29, 307);
        valueIs(x, 30, 320);
        valueIs(x, 960, 64 + 95 * 128);
        KeyframeCurves y = new KeyframeCurves();
        y.setKey(0, 100, 3);
        y.setKey(0, 110, 1);
        y.setExtrapolation(0, 4, 0);
        valueIs(y, 90, 320);
        valueIs(y, 89, 333);
        valueIs(y, 0, 192 + 10 * 128);
    }

    private static void sidesAreApart() {
        KeyframeCurves x = rising(1, 3);
        valueIs(x, 9, 51);
        valueIs(x, 21, 179);
        x.setExtrapolation(0, 3, 1);
        valueIs(x, 9, 77);
        valueIs(x, 21, 205);
    }

    private static void greatest() {
        KeyframeCurves x = new KeyframeCurves();
        x.setKey(0, 0, -999);
        x.setKey(0, 1, 999);
        x.setExtrapolation(0, 0, 4);
        valueIs(x, 960, -63936 + 960 * 127872);
        x.setExtrapolation(0, 0, 1);
        valueIs(x, 960, 63936 + 959 * 127872);
        x.setKey(0, 0, 999);
        x.setKey(0, 1, -999);
        valueIs(x, 960, -63936 - 959 * 127872);
        KeyframeCurves y = new KeyframeCurves();
        y.setKey(0, 0, 999);
        y.setKey(0, 480, 999);
        y.setSlopes(0, 0, 0, 9999);
        y.setSlopes(0, 480, -9999, 0);
        valueIs(y, 240, 63936 + 480 * 9999 / 4);
    }

    private static void valueErrors() {
        KeyframeCurves x = rising(0, 0);
        DUE.is("value(4, 961)", x.value(4, 961), BAD_INDEX);
        DUE.is("value(-1, 0)", x.value(-1, 0), BAD_INDEX);
        DUE.is("value(0, 961)", x.value(0, 961), BAD_VALUE);
        DUE.is("value(0, -1)", x.value(0, -1), BAD_VALUE);
        DUE.is("value(1, 961)", x.value(1, 961), BAD_VALUE);
        DUE.is("value(1, 960)", x.value(1, 960), NONE);
        DUE.is("value(1, 0)", x.value(1, 0), NONE);
    }

    private static void units() {
        KeyframeCurves x = rising(0, 0);
        DUE.isDouble("units(0, 11)", x.units(0, 11), 1.203125);
        DUE.isDouble("units(0, 960)", x.units(0, 960), 3.0);
        DUE.isDouble("units(0, 0)", x.units(0, 0), 1.0);
        x.setKey(3, 5, -7);
        DUE.isDouble("units(3, 0) of one key", x.units(3, 0), -7.0);
        DUE.isDouble("units(1, 11)", x.units(1, 11), 0.0);
        DUE.isDouble("units(0, 961)", x.units(0, 961), 0.0);
        DUE.isDouble("units(0, -1)", x.units(0, -1), 0.0);
        DUE.isDouble("units(4, 0)", x.units(4, 0), 0.0);
        DUE.isDouble("units(-1, 0)", x.units(-1, 0), 0.0);
        x.setKey(2, 0, -999);
        x.setKey(2, 3, 998);
        x.setExtrapolation(2, 0, 1);
        DUE.is("value(2, 960)", x.value(2, 960), 40834943);
        // A float has no place for the last bits of this one.
        DUE.isDouble("units(2, 960)", x.units(2, 960), 638046.0);
    }

    private static void mean() {
        KeyframeCurves x = rising(0, 0);
        DUE.isDouble("mean(0, 10, 10)", x.mean(0, 10, 10), 1.0);
        DUE.isDouble("mean(0, 10, 11)", x.mean(0, 10, 11), 141.0 / 128.0);
        DUE.isDouble("mean(0, 18, 20)", x.mean(0, 18, 20), (166 + 179 + 192) / (64.0 * 3));
        DUE.isDouble("mean(0, 0, 960)", x.mean(0, 0, 960), (10 * 64 + 128 * 11 + 940 * 192) / (64.0 * 961));
        x.setKey(3, 5, -7);
        DUE.isDouble("mean(3, 0, 10) of one key", x.mean(3, 0, 10), -7.0);
        DUE.isDouble("mean(0, 11, 10)", x.mean(0, 11, 10), 0.0);
        DUE.isDouble("mean(0, -1, 10)", x.mean(0, -1, 10), 0.0);
        DUE.isDouble("mean(0, 10, 961)", x.mean(0, 10, 961), 0.0);
        DUE.isDouble("mean(0, 961, 961)", x.mean(0, 961, 961), 0.0);
        DUE.isDouble("mean(4, 0, 10)", x.mean(4, 0, 10), 0.0);
        DUE.isDouble("mean(-1, 0, 10)", x.mean(-1, 0, 10), 0.0);
        DUE.isDouble("mean(1, 0, 10)", x.mean(1, 0, 10), 0.0);
        x.setKey(2, 0, -999);
        x.setKey(2, 1, 999);
        x.setExtrapolation(2, 0, 1);
        // The sum is far above an int.
        double sum = 127872.0 * (959 * 960 / 2) + 959 * 63936;
        DUE.isDouble("mean(2, 0, 960)", x.mean(2, 0, 960), sum / (64.0 * 961));
    }

    private static void extreme() {
        KeyframeCurves x = new KeyframeCurves();
        x.setKey(0, 10, 5);
        x.setKey(0, 20, -5);
        x.setKey(0, 30, 5);
        x.setKey(0, 40, -5);
        for (int frame = 10; frame <= 40; frame += 10) {
            x.setMode(0, frame, 2);
        }
        DUE.is("extreme(0, 0, 960, true)", x.extreme(0, 0, 960, true), 0);
        DUE.is("extreme(0, 11, 960, true)", x.extreme(0, 11, 960, true), 30);
        DUE.is("extreme(0, 0, 960, false)", x.extreme(0, 0, 960, false), 20);
        DUE.is("extreme(0, 21, 960, false)", x.extreme(0, 21, 960, false), 40);
        DUE.is("extreme(0, 21, 39, false)", x.extreme(0, 21, 39, false), 21);
        DUE.is("extreme(0, 22, 39, false)", x.extreme(0, 22, 39, false), 39);
        DUE.is("extreme(0, 21, 29, true)", x.extreme(0, 21, 29, true), 29);
        DUE.is("extreme(0, 25, 25, true)", x.extreme(0, 25, 25, true), 25);
        DUE.is("extreme(0, 25, 26, true)", x.extreme(0, 25, 26, true), 26);
        DUE.is("extreme(0, 29, 40, true)", x.extreme(0, 29, 40, true), 30);
        DUE.is("extreme(0, 19, 30, false)", x.extreme(0, 19, 30, false), 20);
        DUE.is("extreme(0, 960, 960, false)", x.extreme(0, 960, 960, false), 960);
        rangeErrors(x, (c, from, to) -> x.extreme(c, from, to, true));
        rangeErrors(x, (c, from, to) -> x.extreme(c, from, to, false));
    }

    private static void crossings() {
        KeyframeCurves x = new KeyframeCurves();
        x.setKey(0, 10, 0);
        x.setKey(0, 20, 10);
        x.setKey(0, 30, 0);
        x.setKey(0, 40, 10);
        for (int frame = 10; frame <= 40; frame += 10) {
            x.setMode(0, frame, 2);
        }
        DUE.is("crossings(0, 0, 960, 5)", x.crossings(0, 0, 960, 5), 3);
        DUE.is("crossings(0, 0, 960, 10)", x.crossings(0, 0, 960, 10), 3);
        DUE.is("crossings(0, 0, 960, 0)", x.crossings(0, 0, 960, 0), 0);
        DUE.is("crossings(0, 0, 960, 11)", x.crossings(0, 0, 960, 11), 0);
        DUE.is("crossings(0, 14, 15, 5)", x.crossings(0, 14, 15, 5), 1);
        DUE.is("crossings(0, 15, 25, 5)", x.crossings(0, 15, 25, 5), 0);
        DUE.is("crossings(0, 15, 26, 5)", x.crossings(0, 15, 26, 5), 1);
        DUE.is("crossings(0, 15, 15, 5)", x.crossings(0, 15, 15, 5), 0);
        DUE.is("crossings(0, 0, 960, 999)", x.crossings(0, 0, 960, 999), 0);
        DUE.is("crossings(0, 0, 960, -999)", x.crossings(0, 0, 960, -999), 0);
        DUE.is("crossings(0, 0, 960, 1000)", x.crossings(0, 0, 960, 1000), BAD_VALUE);
        DUE.is("crossings(0, 0, 960, -1000)", x.crossings(0, 0, 960, -1000), BAD_VALUE);
        DUE.is("crossings(1, 0, 960, 1000)", x.crossings(1, 0, 960, 1000), BAD_VALUE);
        DUE.is("crossings(4, 0, 960, 1000)", x.crossings(4, 0, 960, 1000), BAD_INDEX);
        rangeErrors(x, (c, from, to) -> x.crossings(c, from, to, 5));
    }

    private interface Ranged {
        int ask(int curve, int from, int to);
    }

    /** Curve 0 has keys here, curve 1 has none. */
    private static void rangeErrors(KeyframeCurves x, Ranged call) {
        DUE.is("range of curve 4, from 5 to 4", call.ask(4, 5, 4), BAD_INDEX);
        DUE.is("range of curve -1", call.ask(-1, 0, 4), BAD_INDEX);
        DUE.is("range from 5 to 4", call.ask(0, 5, 4), BAD_VALUE);
        DUE.is("range from -1 to 4", call.ask(0, -1, 4), BAD_VALUE);
        DUE.is("range from 0 to 961", call.ask(0, 0, 961), BAD_VALUE);
        DUE.is("range from 961 to 961", call.ask(0, 961, 961), BAD_VALUE);
        DUE.is("range from 5 to 4 without keys", call.ask(1, 5, 4), BAD_VALUE);
        DUE.is("range without keys", call.ask(1, 0, 960), NONE);
        DUE.is("keys(0)", x.keys(0), 4);
    }
}
