import java.util.ArrayList;
import java.util.List;

/** Promises 26 and 27: shortest polylines and removed keys. */
public final class ReductionTest {
    private static final Due DUE = new Due("ReductionTest");
    private static final int BAD_INDEX = KeyframeCurves.BAD_INDEX;
    private static final int BAD_VALUE = KeyframeCurves.BAD_VALUE;
    private static final int NOT_POSSIBLE = KeyframeCurves.NOT_POSSIBLE;
    private static final int NONE = KeyframeCurves.NONE;

    public static void main(String[] args) {
        polyline();
        polylineOfEqualLines();
        polylineAtItsBounds();
        polylineErrors();
        for (int seed = 0; seed < 150; seed++) {
            polylineAmongAllSets(seed);
        }
        decimate();
        decimateTakesTheCheapest();
        decimateTakesTheFirstOfEquals();
        decimateComparesWithTheFirstCurve();
        decimateErrors();
        DUE.finish();
    }

    private static void linear(KeyframeCurves x, int... framesAndValues) {
        for (int i = 0; i < framesAndValues.length; i += 2) {
            x.setKey(0, framesAndValues[i], framesAndValues[i + 1]);
            x.setMode(0, framesAndValues[i], 2);
        }
    }

    private static void polyline() {
        KeyframeCurves x = new KeyframeCurves();
        linear(x, 0, 0, 10, 10, 20, 0);
        DUE.is("polyline(0, 0, 20, 0, -1)", x.polyline(0, 0, 20, 0, -1), 3);
        DUE.is("polyline(0, 0, 20, 0, 0)", x.polyline(0, 0, 20, 0, 0), 0);
        DUE.is("polyline(0, 0, 20, 0, 1)", x.polyline(0, 0, 20, 0, 1), 10);
        DUE.is("polyline(0, 0, 20, 0, 2)", x.polyline(0, 0, 20, 0, 2), 20);
        DUE.is("polyline(0, 0, 20, 0, 3)", x.polyline(0, 0, 20, 0, 3), NONE);
        DUE.is("polyline(0, 0, 20, 0, max)", x.polyline(0, 0, 20, 0, Integer.MAX_VALUE), NONE);
        DUE.is("polyline(0, 3, 8, 0, -1)", x.polyline(0, 3, 8, 0, -1), 2);
        DUE.is("polyline(0, 3, 8, 0, 0)", x.polyline(0, 3, 8, 0, 0), 3);
        DUE.is("polyline(0, 0, 20, 639, -1)", x.polyline(0, 0, 20, 639, -1), 3);
        DUE.is("polyline(0, 0, 20, 640, -1)", x.polyline(0, 0, 20, 640, -1), 2);
        DUE.is("polyline(0, 0, 20, 640, 1)", x.polyline(0, 0, 20, 640, 1), 20);
        DUE.is("polyline(0, 9, 10, 0, -1)", x.polyline(0, 9, 10, 0, -1), 2);
        // With a tolerance more frames would do for the corner, but only one makes the smallest sum.
        DUE.is("polyline(0, 0, 20, 100, 1)", x.polyline(0, 0, 20, 100, 1), 10);
    }

    /** A plateau of two frames in the middle: both corners serve equally well, and the first one is taken. */
    private static void polylineOfEqualLines() {
        KeyframeCurves x = new KeyframeCurves();
        linear(x, 0, 0, 1, 10, 2, 10, 3, 0);
        DUE.is("polyline(0, 0, 3, 320, -1)", x.polyline(0, 0, 3, 320, -1), 3);
        DUE.is("polyline(0, 0, 3, 320, 1)", x.polyline(0, 0, 3, 320, 1), 1);
        DUE.is("polyline(0, 0, 3, 319, -1)", x.polyline(0, 0, 3, 319, -1), 4);
        DUE.is("polyline(0, 0, 3, 640, -1)", x.polyline(0, 0, 3, 640, -1), 2);
    }

    private static void polylineAtItsBounds() {
        KeyframeCurves x = new KeyframeCurves();
        x.setKey(0, 0, -999);
        x.setKey(0, 1, 999);
        x.setExtrapolation(0, 0, 2);
        // The last key itself is not folded back, so that frame 1 stands alone.
        DUE.is("polyline(0, 0, 40, 0, -1)", x.polyline(0, 0, 40, 0, -1), 4);
        x.setKey(0, 2, -999);
        DUE.is("polyline(0, 0, 40, 9999, -1)", x.polyline(0, 0, 40, 9999, -1), 41);
        DUE.is("polyline(0, 0, 40, 9999, 40)", x.polyline(0, 0, 40, 9999, 40), 40);
        DUE.is("polyline(0, 0, 40, 9999, 41)", x.polyline(0, 0, 40, 9999, 41), NONE);
        DUE.is("polyline(0, 920, 960, 9999, 39)", x.polyline(0, 920, 960, 9999, 39), 959);
        DUE.is("polyline(0, 959, 960, 0, 1)", x.polyline(0, 959, 960, 0, 1), 960);
    }

    private static void polylineErrors() {
        KeyframeCurves x = new KeyframeCurves();
        linear(x, 0, 0, 10, 10);
        long before = x.checksum();
        DUE.is("polyline(4, 5, 5, -1, -2)", x.polyline(4, 5, 5, -1, -2), BAD_INDEX);
        DUE.is("polyline(-1, 0, 5, 0, 0)", x.polyline(-1, 0, 5, 0, 0), BAD_INDEX);
        DUE.is("polyline(0, 5, 5, 0, 0)", x.polyline(0, 5, 5, 0, 0), BAD_VALUE);
        DUE.is("polyline(0, -1, 5, 0, 0)", x.polyline(0, -1, 5, 0, 0), BAD_VALUE);
        DUE.is("polyline(0, 0, 41, 0, 0)", x.polyline(0, 0, 41, 0, 0), BAD_VALUE);
        DUE.is("polyline(0, 940, 961, 0, 0)", x.polyline(0, 940, 961, 0, 0), BAD_VALUE);
        DUE.is("polyline(0, 960, 961, 0, 0)", x.polyline(0, 960, 961, 0, 0), BAD_VALUE);
        DUE.is("polyline(0, 961, 962, 0, 0)", x.polyline(0, 961, 962, 0, 0), BAD_VALUE);
        DUE.is("polyline(0, 0, 5, -1, 0)", x.polyline(0, 0, 5, -1, 0), BAD_VALUE);
        DUE.is("polyline(0, 0, 5, 10000, 0)", x.polyline(0, 0, 5, 10000, 0), BAD_VALUE);
        DUE.is("polyline(0, 0, 5, 0, -2)", x.polyline(0, 0, 5, 0, -2), BAD_VALUE);
        DUE.is("polyline(0, max, min, 0, 0)", x.polyline(0, Integer.MAX_VALUE, Integer.MIN_VALUE, 0, 0), BAD_VALUE);
        DUE.is("polyline(1, 0, 5, 0, -2)", x.polyline(1, 0, 5, 0, -2), BAD_VALUE);
        DUE.is("polyline(1, 0, 5, 0, 9)", x.polyline(1, 0, 5, 0, 9), NOT_POSSIBLE);
        DUE.is("checksum() after polylines", x.checksum(), before);
    }

    /** Tries each set of frames of a short range. */
    private static void polylineAmongAllSets(int seed) {
        Dice dice = new Dice(seed);
        KeyframeCurves x = new KeyframeCurves();
        Model m = new Model();
        for (int i = dice.from(2, 10); i > 0; i--) {
            int frame = dice.from(0, 14);
            int value = dice.from(-4, 4);
            x.setKey(0, frame, value);
            m.setKey(0, frame, value);
        }
        int from = dice.from(0, 4);
        int to = from + dice.from(2, 10);
        int tolerance = dice.of(0, 5, 20, 40, 60, 80, 100, 150, 200);
        List<Integer> best = null;
        long least = 0;
        for (int set = 0; set < 1 << (to - from - 1); set++) {
            List<Integer> line = new ArrayList<>(List.of(from));
            for (int f = from + 1; f < to; f++) {
                if ((set >> (f - from - 1) & 1) == 1) {
                    line.add(f);
                }
            }
            line.add(to);
            long sum = sumOf(m.now.curves[0], line, tolerance);
            if (sum >= 0 && (best == null || Model.comesFirst(line, sum, best, least))) {
                best = line;
                least = sum;
            }
        }
        DUE.is("seed " + seed + ": size of the line", x.polyline(0, from, to, tolerance, -1), best.size());
        for (int i = 0; i < best.size(); i++) {
            DUE.is("seed " + seed + ": frame " + i, x.polyline(0, from, to, tolerance, i), best.get(i));
        }
        DUE.is("seed " + seed + ": frame behind the last", x.polyline(0, from, to, tolerance, best.size()), NONE);
    }

    private static long sumOf(Model.Curve curve, List<Integer> line, int tolerance) {
        long sum = 0;
        for (int i = 0; i + 1 < line.size(); i++) {
            long misfit = Model.misfit(curve, line.get(i), line.get(i + 1), tolerance);
            if (misfit < 0) {
                return -1;
            }
            sum += misfit;
        }
        return sum;
    }

    private static void decimate() {
        KeyframeCurves x = new KeyframeCurves();
        DUE.is("decimate(0, 0) without keys", x.decimate(0, 0), 0);
        linear(x, 0, 0);
        DUE.is("decimate(0, 9999) of one key", x.decimate(0, 9999), 0);
        linear(x, 20, 20);
        DUE.is("decimate(0, 9999) of two keys", x.decimate(0, 9999), 0);
        linear(x, 5, 5, 10, 10, 15, 15);
        x.setExtrapolation(0, 1, 2);
        DUE.is("decimate(0, 0) of a straight way", x.decimate(0, 0), 3);
        DUE.is("frameOf(0, 0)", x.frameOf(0, 0), 0);
        DUE.is("frameOf(0, 1)", x.frameOf(0, 1), 20);
        DUE.is("undo()", x.undo(), 9);
        DUE.is("keys(0) after undo", x.keys(0), 5);
        x.decimate(0, 0);
        DUE.is("setExtrapolation(0, 0, 0)", x.setExtrapolation(0, 0, 0), 12);
        x.clear(0);
        linear(x, 0, 0, 10, 10, 20, 0);
        DUE.is("decimate(0, 639)", x.decimate(0, 639), 0);
        DUE.is("decimate(0, 640)", x.decimate(0, 640), 1);
        DUE.is("keys(0)", x.keys(0), 2);
        x.clear(0);
        linear(x, 478, 0, 479, 5, 480, 0);
        DUE.is("decimate(0, 319) of three frames", x.decimate(0, 319), 0);
        DUE.is("decimate(0, 320) of three frames", x.decimate(0, 320), 1);
        x.clear(0);
        linear(x, 0, 0, 10, 0, 20, 50);
        x.setMode(0, 0, 6);
        x.setMode(0, 10, 6);
        DUE.is("decimate(0, 0) of HOLD", x.decimate(0, 0), 1);
        DUE.is("frameOf(0, 1)", x.frameOf(0, 1), 20);
    }

    /** Without 10 the way differs by 640 parts, without 20 by 480, without 30 by 320. */
    private static void decimateTakesTheCheapest() {
        KeyframeCurves x = new KeyframeCurves();
        linear(x, 0, 0, 10, 10, 20, 0, 30, 5, 40, 0);
        DUE.is("decimate(0, 319)", x.decimate(0, 319), 0);
        DUE.is("decimate(0, 320)", x.decimate(0, 320), 1);
        DUE.is("frameOf(0, 1)", x.frameOf(0, 1), 10);
        DUE.is("frameOf(0, 2)", x.frameOf(0, 2), 20);
        DUE.is("frameOf(0, 3)", x.frameOf(0, 3), 40);
    }

    /** A plateau, where one corner is as cheap as the other, but both together are not. */
    private static void decimateTakesTheFirstOfEquals() {
        KeyframeCurves x = new KeyframeCurves();
        linear(x, 0, 0, 10, 4, 20, 4, 30, 0);
        DUE.is("decimate(0, 127)", x.decimate(0, 127), 0);
        DUE.is("decimate(0, 255)", x.decimate(0, 255), 1);
        DUE.is("frameOf(0, 1)", x.frameOf(0, 1), 20);
        x.undo();
        DUE.is("decimate(0, 256)", x.decimate(0, 256), 2);
    }

    /** Each step is small, but the steps add up, and it is the sum that the tolerance bounds. */
    private static void decimateComparesWithTheFirstCurve() {
        KeyframeCurves x = new KeyframeCurves();
        linear(x, 0, 0, 10, 2, 20, 0, 30, 2, 40, 0, 50, 2, 60, 0);
        KeyframeCurves y = new KeyframeCurves();
        linear(y, 0, 0, 10, 2, 20, 0, 30, 2, 40, 0, 50, 2, 60, 0);
        DUE.is("decimate(0, 128)", x.decimate(0, 128), 5);
        Model m = new Model();
        for (int i = 0; i <= 6; i++) {
            m.setKey(0, 10 * i, i % 2 == 0 ? 0 : 2);
            m.setMode(0, 10 * i, 2);
        }
        for (int tolerance = 0; tolerance <= 128; tolerance++) {
            DUE.is("decimate(0, " + tolerance + ")", y.decimate(0, tolerance), m.decimate(0, tolerance));
            DUE.is("checksum() after it", y.checksum(), m.checksum());
            y.undo();
            m.undo();
        }
    }

    private static void decimateErrors() {
        KeyframeCurves x = new KeyframeCurves();
        linear(x, 0, 0, 10, 10, 20, 20);
        long before = x.checksum();
        DUE.is("decimate(4, -1)", x.decimate(4, -1), BAD_INDEX);
        DUE.is("decimate(-1, 5)", x.decimate(-1, 5), BAD_INDEX);
        DUE.is("decimate(0, -1)", x.decimate(0, -1), BAD_VALUE);
        DUE.is("decimate(0, 10000)", x.decimate(0, 10000), BAD_VALUE);
        DUE.is("decimate(1, 10000)", x.decimate(1, 10000), BAD_VALUE);
        DUE.is("checksum() after errors", x.checksum(), before);
        DUE.is("undo() after errors", x.undo(), 5);
    }
}
