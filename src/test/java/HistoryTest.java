import java.util.ArrayList;
import java.util.List;

/** Promises 34 and 35: undo and the checksum; and which calls are changes. */
public final class HistoryTest {
    private static final Due DUE = new Due("HistoryTest");
    private static final int NONE = KeyframeCurves.NONE;

    public static void main(String[] args) {
        undo();
        tenStates();
        eachChangeIsKept();
        changesThatChangeNothing();
        readingIsNoChange();
        textStays();
        changesAfterUndo();
        checksum();
        DUE.finish();
    }

    /** A call, and what it should answer. */
    private interface Call {
        int made(KeyframeCurves x);
    }

    private static void type(KeyframeCurves x, String text) {
        x.clearText();
        for (int i = 0; i < text.length(); i++) {
            x.append(text.charAt(i));
        }
    }

    private static void undo() {
        KeyframeCurves x = new KeyframeCurves();
        DUE.is("undo() of nothing", x.undo(), NONE);
        x.setKey(0, 1, 2);
        x.setKey(0, 2, 3);
        DUE.is("undo()", x.undo(), 1);
        DUE.is("keys(0)", x.keys(0), 1);
        DUE.is("undo()", x.undo(), 0);
        DUE.is("keys(0)", x.keys(0), 0);
        DUE.is("undo()", x.undo(), NONE);
        DUE.is("undo()", x.undo(), NONE);
    }

    private static void tenStates() {
        KeyframeCurves x = new KeyframeCurves();
        long[] sums = new long[36];
        for (int i = 0; i < 35; i++) {
            sums[i] = x.checksum();
            x.setKey(i % 4, i, i);
        }
        for (int i = 34; i >= 25; i--) {
            DUE.is("undo() of change " + i, x.undo(), i - 25);
            DUE.is("checksum() before change " + i, x.checksum(), sums[i]);
        }
        DUE.is("undo() behind ten", x.undo(), NONE);
        DUE.is("checksum() behind ten", x.checksum(), sums[25]);
    }

    /** Each kind of change, with its answer. */
    private static List<Call> changes() {
        List<Call> calls = new ArrayList<>();
        calls.add(x -> x.setKey(0, 40, 7));
        calls.add(x -> x.setKey(0, 10, 7));
        calls.add(x -> x.removeKey(0, 10));
        calls.add(x -> x.moveKey(0, 10, 35));
        calls.add(x -> x.setMode(0, 10, 0));
        calls.add(x -> x.setSlopes(0, 10, 55, 66));
        calls.add(x -> x.split(0, 15));
        calls.add(x -> x.clear(0));
        calls.add(x -> x.setExtrapolation(0, 1, 3));
        calls.add(x -> x.addPoint(400, 420));
        calls.add(x -> x.clearMap());
        calls.add(x -> x.retime(0));
        calls.add(x -> x.bake(0, 0, 12, 3));
        calls.add(x -> x.bakeFormula(0, 0, 12, 3));
        calls.add(x -> x.decimate(0, 9999));
        calls.add(x -> x.readCurve(0));
        calls.add(x -> {
            type(x, "d-a*2");
            return x.readFormula();
        });
        return calls;
    }

    private static KeyframeCurves furnished() {
        KeyframeCurves x = new KeyframeCurves();
        x.setKey(0, 0, 10);
        x.setKey(0, 10, -20);
        x.setKey(0, 30, 50);
        x.setSlopes(0, 30, 100, 200);
        x.setExtrapolation(0, 2, 4);
        x.setKey(3, 5, 5);
        x.addPoint(0, 0);
        x.addPoint(100, 200);
        type(x, "a*d+1");
        x.readFormula();
        type(x, "3:4,8:-9H;");
        return x;
    }

    private static void eachChangeIsKept() {
        long before = furnished().checksum();
        int kind = 0;
        for (Call call : changes()) {
            KeyframeCurves x = furnished();
            int answer = call.made(x);
            DUE.holds("change " + kind + " answers no error", answer >= 0);
            DUE.holds("change " + kind + " changes the checksum", x.checksum() != before);
            DUE.is("undo() of change " + kind, x.undo(), 9);
            DUE.is("checksum() after undo of change " + kind, x.checksum(), before);
            kind++;
        }
    }

    private static void changesThatChangeNothing() {
        KeyframeCurves x = new KeyframeCurves();
        x.clear(0);
        x.clearMap();
        x.setExtrapolation(1, 0, 0);
        x.retime(2);
        x.decimate(3, 5);
        DUE.is("undo() of five empty changes", x.undo(), 4);
        x.setKey(0, 1, 1);
        x.setKey(0, 1, 1);
        x.moveKey(0, 1, 1);
        x.setMode(0, 1, 3);
        DUE.is("undo() of more empty changes", x.undo(), 7);
    }

    private static void readingIsNoChange() {
        KeyframeCurves x = furnished();
        x.undo();
        x.undo();
        long before = x.checksum();
        x.keys(0);
        x.frameOf(0, 1);
        x.valueOf(0, 1);
        x.modeOf(0, 1);
        x.slope(0, 1, true);
        x.value(0, 700);
        x.units(0, 700);
        x.mean(0, 0, 960);
        x.extreme(0, 0, 960, true);
        x.crossings(0, 0, 960, 3);
        x.mapped(5);
        x.polyline(0, 0, 40, 10, 1);
        x.mix(5);
        x.append(65);
        x.faultPosition(true);
        x.faultPosition(false);
        x.clearText();
        x.checksum();
        DUE.is("checksum() after reading", x.checksum(), before);
        DUE.is("undo() after reading", x.undo(), 6);
    }

    private static void textStays() {
        KeyframeCurves x = new KeyframeCurves();
        type(x, "5");
        x.setKey(0, 0, 0);
        x.append('6');
        x.undo();
        DUE.is("clearText() after undo", x.clearText(), 2);
    }

    private static void changesAfterUndo() {
        KeyframeCurves x = new KeyframeCurves();
        for (int i = 0; i < 15; i++) {
            x.setKey(0, i, 1);
        }
        DUE.is("undo()", x.undo(), 9);
        DUE.is("undo()", x.undo(), 8);
        x.setKey(1, 0, 1);
        DUE.is("undo()", x.undo(), 8);
        DUE.is("keys(0)", x.keys(0), 13);
        DUE.is("keys(1)", x.keys(1), 0);
        for (int left = 7; left >= 0; left--) {
            DUE.is("undo()", x.undo(), left);
            DUE.is("keys(0)", x.keys(0), left + 5);
        }
        DUE.is("undo()", x.undo(), NONE);
    }

    private long sum = 23;

    private void add(long value) {
        sum = 31 * sum + value;
    }

    /** The checksum of a furnished object, put together from the answers of the other calls. */
    private static void checksum() {
        KeyframeCurves x = furnished();
        HistoryTest h = new HistoryTest();
        int[] extrapolations = {24, 0, 0, 0};
        for (int c = 0; c < 4; c++) {
            h.add(x.keys(c));
            for (int k = 0; k < x.keys(c); k++) {
                h.add(x.frameOf(c, k));
                h.add(x.valueOf(c, k));
                h.add(x.modeOf(c, k));
                h.add(x.slope(c, k, false));
                h.add(x.slope(c, k, true));
            }
            h.add(extrapolations[c]);
            for (int f = 0; f <= 960 && x.keys(c) > 0; f += 60) {
                h.add(x.value(c, f));
            }
        }
        for (int point : new int[] {2, 0, 0, 100, 200}) {
            h.add(point);
        }
        for (int f = 0; f <= 960; f += 60) {
            h.add(x.mix(f));
        }
        DUE.is("checksum()", x.checksum(), h.sum);
        DUE.is("checksum() again", x.checksum(), h.sum);
    }
}
