import java.util.List;

/** Long runs of mixed calls with fair, edge and wild arguments: each answer is that of the model, and nothing is thrown. */
public final class AgainstModelTest {
    private static final int CALLS = 512;
    private static final int WILD_EVERY = 40;
    private static final Due DUE = new Due("AgainstModelTest");

    private final Dice dice;
    private final KeyframeCurves x = new KeyframeCurves();
    private final Model m = new Model();
    private final String run;
    private int calls = 0;
    private boolean allFair;

    private AgainstModelTest(int seed) {
        dice = new Dice(seed);
        run = "run " + seed + ": ";
        allFair = seed % 3 == 0;
    }

    public static void main(String[] args) {
        int runs = args.length > 0 ? Integer.parseInt(args[0]) : 200;
        int first = args.length > 1 ? Integer.parseInt(args[1]) : 0;
        for (int seed = first; seed < first + runs && DUE.wrong() == 0; seed++) {
            new AgainstModelTest(seed).play();
        }
        DUE.finish();
    }

    private void play() {
        if (dice.once(2)) {
            type(curveText());
            due("readCurve(0)", x.readCurve(0), m.readCurve(0));
        }
        while (calls < CALLS && DUE.wrong() == 0) {
            call(dice.below(40));
        }
    }

    private boolean wild() {
        return !allFair && dice.once(WILD_EVERY);
    }

    private int wildNumber() {
        return dice.of(-1, -2, 4, 5, 7, 481, 961, 1000, 10000, -10000, 25, 24, 121, 128, Integer.MAX_VALUE,
                Integer.MAX_VALUE - 1, Integer.MIN_VALUE, Integer.MIN_VALUE + 1, 1 << 30, -(1 << 30));
    }

    private int curve() {
        return wild() ? wildNumber() : dice.of(0, 0, 0, 0, 1, 1, 2, 3);
    }

    private int frame() {
        if (wild()) {
            return wildNumber();
        }
        return dice.once(3) ? dice.from(0, 480) : dice.once(2) ? dice.from(0, 40) : 20 * dice.from(0, 24);
    }

    private int keyFrame(int curve) {
        int keys = m.keys(curve);
        return keys < 1 || dice.once(15) ? frame() : m.frameOf(curve, dice.below(keys));
    }

    private int late() {
        if (wild()) {
            return wildNumber();
        }
        return dice.once(20) ? dice.of(0, 960, 961, -1) : dice.from(0, 960);
    }

    private int amount() {
        if (wild()) {
            return wildNumber();
        }
        return dice.once(12) ? dice.of(-999, 999, -1000, 1000) : dice.once(2) ? dice.from(-999, 999) : dice.from(-20, 20);
    }

    private int steepness() {
        if (wild()) {
            return wildNumber();
        }
        return dice.once(12) ? dice.of(-9999, 9999, -10000, 10000) : dice.from(-500, 500);
    }

    private int tolerance() {
        if (wild()) {
            return wildNumber();
        }
        return dice.once(12) ? dice.of(0, 9999, 10000, -1) : dice.once(2) ? dice.from(0, 100) : dice.from(0, 3000);
    }

    private int small(int most) {
        return wild() ? wildNumber() : dice.from(0, most);
    }

    private void due(String call, long got, long want) {
        calls++;
        DUE.is(run + "call " + calls + ": " + call, got, want);
        // A refused call must have changed nothing; the model never does.
        boolean refused = want >= Model.NONE && want <= Model.BAD_INDEX;
        if (calls < CALLS && (refused && dice.once(2) || dice.once(25))) {
            calls++;
            DUE.is(run + "call " + calls + ": checksum() after " + call, x.checksum(), m.checksum());
        }
    }

    private static String told(String name, int... numbers) {
        StringBuilder s = new StringBuilder(name);
        for (int i = 0; i < numbers.length; i++) {
            s.append(i == 0 ? "(" : ", ").append(numbers[i]);
        }
        return s.append(")").toString();
    }

    private void call(int kind) {
        int c = curve();
        int f = frame();
        int g = frame();
        int v = amount();
        switch (kind) {
            case 0: case 1: case 2: case 3: case 4: case 5: case 6:
                due(told("setKey", c, f, v), x.setKey(c, f, v), m.setKey(c, f, v));
                break;
            case 7:
                f = keyFrame(c);
                if (dice.once(2)) {
                    due(told("removeKey", c, f), x.removeKey(c, f), m.removeKey(c, f));
                }
                break;
            case 8:
                f = keyFrame(c);
                g = dice.once(4) ? keyFrame(c) : g;
                due(told("moveKey", c, f, g), x.moveKey(c, f, g), m.moveKey(c, f, g));
                break;
            case 9: case 10: case 11: case 12: case 13:
                f = keyFrame(c);
                v = small(6);
                due(told("setMode", c, f, v), x.setMode(c, f, v), m.setMode(c, f, v));
                break;
            case 14:
                f = keyFrame(c);
                int in = steepness();
                int out = steepness();
                due(told("setSlopes", c, f, in, out), x.setSlopes(c, f, in, out), m.setSlopes(c, f, in, out));
                break;
            case 15: case 16:
                due(told("split", c, f), x.split(c, f), m.split(c, f));
                break;
            case 17:
                if (dice.once(6)) {
                    due(told("clear", c), x.clear(c), m.clear(c));
                }
                break;
            case 18: case 19:
                f = small(4);
                g = small(4);
                due(told("setExtrapolation", c, f, g), x.setExtrapolation(c, f, g), m.setExtrapolation(c, f, g));
                break;
            case 20:
                inspect(c, small(Math.max(0, m.keys(c))));
                break;
            case 21: case 22: case 23:
                f = late();
                due(told("value", c, f), x.value(c, f), m.value(c, f));
                DUE.isDouble(run + told("units", c, f), x.units(c, f), m.units(c, f));
                calls++;
                break;
            case 24: case 25:
                overRange(c, late(), late());
                break;
            case 26: case 27:
                point();
                break;
            case 28:
                due(told("mapped", f), x.mapped(f), m.mapped(f));
                if (dice.once(3)) {
                    due("clearMap()", x.clearMap(), m.clearMap());
                }
                break;
            case 29:
                due(told("retime", c), x.retime(c), m.retime(c));
                break;
            case 30: case 31:
                bakes(c, f, g);
                break;
            case 32: case 33:
                lines(c);
                break;
            case 34:
                v = tolerance();
                due(told("decimate", c, v), x.decimate(c, v), m.decimate(c, v));
                break;
            case 35:
                text(c);
                break;
            case 36:
                f = late();
                due(told("mix", f), x.mix(f), m.mix(f));
                break;
            case 37: case 38:
                for (int i = dice.once(8) ? 12 : dice.from(1, 2); i > 0; i--) {
                    due("undo()", x.undo(), m.undo());
                }
                break;
            default:
                due("checksum()", x.checksum(), m.checksum());
        }
    }

    private void inspect(int c, int k) {
        due(told("keys", c), x.keys(c), m.keys(c));
        due(told("frameOf", c, k), x.frameOf(c, k), m.frameOf(c, k));
        due(told("valueOf", c, k), x.valueOf(c, k), m.valueOf(c, k));
        due(told("modeOf", c, k), x.modeOf(c, k), m.modeOf(c, k));
        due(told("slope in", c, k), x.slope(c, k, false), m.slope(c, k, false));
        due(told("slope out", c, k), x.slope(c, k, true), m.slope(c, k, true));
    }

    private void overRange(int c, int one, int other) {
        boolean swap = one > other && !dice.once(10);
        int from = swap ? other : one;
        int to = swap ? one : other;
        boolean greatest = dice.once(2);
        int level = amount();
        DUE.isDouble(run + told("mean", c, from, to), x.mean(c, from, to), m.mean(c, from, to));
        calls++;
        due(told("extreme " + greatest, c, from, to), x.extreme(c, from, to, greatest), m.extreme(c, from, to, greatest));
        due(told("crossings", c, from, to, level), x.crossings(c, from, to, level), m.crossings(c, from, to, level));
    }

    private void point() {
        int n = m.now.map.size();
        int source = frame();
        int target = frame();
        if (n > 0 && !dice.once(5)) {
            source = m.now.map.get(n - 1)[0] + dice.from(0, 90);
            target = m.now.map.get(n - 1)[1] + dice.from(0, 90);
        } else if (n == 0 && !dice.once(5)) {
            source = dice.from(0, 60);
            target = dice.from(0, 60);
        }
        due(told("addPoint", source, target), x.addPoint(source, target), m.addPoint(source, target));
    }

    private void bakes(int c, int one, int other) {
        boolean swap = one > other && !dice.once(10);
        int from = swap ? other : one;
        int to = swap ? one : other;
        int step = wild() ? wildNumber() : dice.once(2) ? dice.from(1, 480) : dice.from(0, 60);
        if (dice.once(2)) {
            due(told("bake", c, from, to, step), x.bake(c, from, to, step), m.bake(c, from, to, step));
        } else {
            due(told("bakeFormula", c, from, to, step), x.bakeFormula(c, from, to, step), m.bakeFormula(c, from, to, step));
        }
    }

    private void lines(int c) {
        int from = dice.once(3) ? late() : frame();
        int to = wild() ? wildNumber() : from + dice.from(dice.once(6) ? -1 : 1, 41);
        int tolerance = tolerance();
        for (int index : new int[] {-1, dice.from(0, 6), wild() ? wildNumber() : dice.from(0, 3)}) {
            due(told("polyline", c, from, to, tolerance, index), x.polyline(c, from, to, tolerance, index),
                    m.polyline(c, from, to, tolerance, index));
        }
    }

    private void text(int c) {
        if (CALLS - calls > 130 && dice.once(2)) {
            boolean curve = dice.once(2);
            type(curve ? curveText() : formulaText());
        } else if (dice.once(2)) {
            for (int i = dice.from(1, 5); i > 0; i--) {
                int letter = wild() ? wildNumber() : dice.of("0123456789abcdm@()+-*,:;TLACMH".charAt(dice.below(30)), dice.from(0, 127));
                due(told("append", letter), x.append(letter), m.append(letter));
            }
        }
        due("faultPosition(true)", x.faultPosition(true), m.faultPosition(true));
        due("faultPosition(false)", x.faultPosition(false), m.faultPosition(false));
        due("readFormula()", x.readFormula(), m.readFormula());
        due(told("readCurve", c), x.readCurve(c), m.readCurve(c));
    }

    private void type(String text) {
        due("clearText()", x.clearText(), m.clearText());
        for (int i = 0; i < text.length(); i++) {
            int letter = text.charAt(i);
            DUE.is(run + told("append", letter), x.append(letter), m.append(letter));
            calls++;
        }
    }

    private String curveText() {
        return Texts.curve(dice);
    }

    private String formulaText() {
        return Texts.formula(dice);
    }
}
