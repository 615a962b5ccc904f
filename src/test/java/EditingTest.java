/** Promises 1 to 14: a new object, the edits of keys, and what is asked about keys. */
public final class EditingTest {
    private static final Due DUE = new Due("EditingTest");
    private static final int BAD_INDEX = KeyframeCurves.BAD_INDEX;
    private static final int BAD_VALUE = KeyframeCurves.BAD_VALUE;
    private static final int FULL = KeyframeCurves.FULL;
    private static final int NOT_POSSIBLE = KeyframeCurves.NOT_POSSIBLE;
    private static final int NONE = KeyframeCurves.NONE;

    public static void main(String[] args) {
        newObject();
        setKey();
        setKeyFull();
        removeKey();
        moveKey();
        setMode();
        setModeFreeIsClamped();
        setSlopes();
        split();
        splitAtHold();
        splitIsClamped();
        splitErrors();
        clear();
        setExtrapolation();
        askedKeys();
        slopesOfInnerKeys();
        slopesOfEnds();
        slopesOfMonotone();
        slopesAreRoundedUp();
        slopesOfOneKey();
        DUE.finish();
    }

    private static void newObject() {
        KeyframeCurves x = new KeyframeCurves();
        for (int c = 0; c < 4; c++) {
            DUE.is("keys of a new curve", x.keys(c), 0);
            DUE.is("value of a new curve", x.value(c, 0), NONE);
        }
        long h = 23;
        for (int i = 0; i < 26; i++) {
            h = 31 * h;
        }
        DUE.is("checksum of a new object", x.checksum(), h);
        DUE.is("mapped(77)", x.mapped(77), 77);
        DUE.is("mix(3)", x.mix(3), 0);
        DUE.is("clearText() of a new object", x.clearText(), 0);
        DUE.is("undo() of a new object", x.undo(), NONE);
        DUE.is("clearMap() of a new object", x.clearMap(), 0);
        for (int c = 0; c < 4; c++) {
            DUE.is("extrapolation of a new curve", x.setExtrapolation(c, 0, 0), 0);
        }
    }

    private static void setKey() {
        KeyframeCurves x = new KeyframeCurves();
        DUE.is("setKey(3, 480, 999)", x.setKey(3, 480, 999), 1);
        DUE.is("setKey(3, 0, -999)", x.setKey(3, 0, -999), 2);
        DUE.is("setKey(3, 7, 5)", x.setKey(3, 7, 5), 3);
        keyIs(x, 3, 0, 0, -999, 3);
        keyIs(x, 3, 1, 7, 5, 3);
        keyIs(x, 3, 2, 480, 999, 3);
        DUE.is("keys(0)", x.keys(0), 0);
        x.setSlopes(3, 7, 11, 12);
        DUE.is("setKey(3, 7, 6) again", x.setKey(3, 7, 6), 3);
        keyIs(x, 3, 1, 7, 6, 0);
        slopesAre(x, 3, 1, 11, 12);
        long before = x.checksum();
        DUE.is("setKey(4, 481, 1000)", x.setKey(4, 481, 1000), BAD_INDEX);
        DUE.is("setKey(-1, 0, 0)", x.setKey(-1, 0, 0), BAD_INDEX);
        DUE.is("setKey(0, 481, 0)", x.setKey(0, 481, 0), BAD_VALUE);
        DUE.is("setKey(0, -1, 0)", x.setKey(0, -1, 0), BAD_VALUE);
        DUE.is("setKey(0, 0, 1000)", x.setKey(0, 0, 1000), BAD_VALUE);
        DUE.is("setKey(0, 0, -1000)", x.setKey(0, 0, -1000), BAD_VALUE);
        DUE.is("checksum() after errors", x.checksum(), before);
        DUE.is("undo() after errors", x.undo(), 4);
    }

    private static void setKeyFull() {
        KeyframeCurves x = new KeyframeCurves();
        for (int i = 0; i < 24; i++) {
            DUE.is("setKey number " + i, x.setKey(1, 20 * i, i), i + 1);
        }
        long before = x.checksum();
        DUE.is("setKey for a 25th key", x.setKey(1, 3, 0), FULL);
        DUE.is("setKey for a 25th key out of range", x.setKey(1, 481, 0), BAD_VALUE);
        DUE.is("checksum() after FULL", x.checksum(), before);
        DUE.is("setKey for the 24th key again", x.setKey(1, 460, 9), 24);
        DUE.is("setKey for the first key again", x.setKey(1, 0, 9), 24);
        DUE.is("setKey in another curve", x.setKey(2, 3, 0), 1);
    }

    private static void removeKey() {
        KeyframeCurves x = threeKeys();
        long before = x.checksum();
        DUE.is("removeKey(0, 11)", x.removeKey(0, 11), BAD_INDEX);
        DUE.is("removeKey(4, 10)", x.removeKey(4, 10), BAD_INDEX);
        DUE.is("removeKey(-1, 10)", x.removeKey(-1, 10), BAD_INDEX);
        DUE.is("removeKey(1, 10)", x.removeKey(1, 10), BAD_INDEX);
        DUE.is("removeKey(0, -1)", x.removeKey(0, -1), BAD_INDEX);
        DUE.is("checksum() after errors", x.checksum(), before);
        DUE.is("removeKey(0, 10)", x.removeKey(0, 10), 2);
        keyIs(x, 0, 0, 0, 1, 3);
        keyIs(x, 0, 1, 20, 3, 3);
        DUE.is("removeKey(0, 20)", x.removeKey(0, 20), 1);
        DUE.is("removeKey(0, 0)", x.removeKey(0, 0), 0);
        DUE.is("value without keys", x.value(0, 0), NONE);
        DUE.is("removeKey(0, 0) again", x.removeKey(0, 0), BAD_INDEX);
    }

    private static void moveKey() {
        KeyframeCurves x = threeKeys();
        x.setSlopes(0, 0, 5, 6);
        DUE.is("moveKey(0, 0, 15)", x.moveKey(0, 0, 15), 1);
        keyIs(x, 0, 0, 10, 2, 3);
        keyIs(x, 0, 1, 15, 1, 0);
        slopesAre(x, 0, 1, 5, 6);
        DUE.is("moveKey(0, 15, 480)", x.moveKey(0, 15, 480), 2);
        keyIs(x, 0, 1, 20, 3, 3);
        keyIs(x, 0, 2, 480, 1, 0);
        DUE.is("moveKey(0, 480, 480)", x.moveKey(0, 480, 480), 2);
        DUE.is("moveKey(0, 480, 0)", x.moveKey(0, 480, 0), 0);
        long before = x.checksum();
        DUE.is("moveKey(4, 0, 481)", x.moveKey(4, 0, 481), BAD_INDEX);
        DUE.is("moveKey(0, 1, 481)", x.moveKey(0, 1, 481), BAD_INDEX);
        DUE.is("moveKey(0, 1, 10)", x.moveKey(0, 1, 10), BAD_INDEX);
        DUE.is("moveKey(0, 0, 481)", x.moveKey(0, 0, 481), BAD_VALUE);
        DUE.is("moveKey(0, 0, -1)", x.moveKey(0, 0, -1), BAD_VALUE);
        DUE.is("moveKey(0, 0, 10)", x.moveKey(0, 0, 10), NOT_POSSIBLE);
        DUE.is("moveKey(0, 10, 0)", x.moveKey(0, 10, 0), NOT_POSSIBLE);
        DUE.is("checksum() after errors", x.checksum(), before);
        DUE.is("undo() after moves and errors", x.undo(), 7);
    }

    private static void setMode() {
        KeyframeCurves x = threeKeys();
        DUE.is("setMode to HOLD", x.setMode(0, 10, 6), 3);
        DUE.is("setMode to LINEAR", x.setMode(0, 10, 2), 6);
        DUE.is("setMode to LINEAR again", x.setMode(0, 10, 2), 2);
        x.setKey(0, 10, 11);
        DUE.is("setMode to FREE", x.setMode(0, 10, 0), 2);
        slopesAre(x, 0, 1, 64, -51);
        x.setKey(0, 10, 2);
        slopesAre(x, 0, 1, 64, -51);
        DUE.is("setMode to FREE again", x.setMode(0, 10, 0), 0);
        slopesAre(x, 0, 1, 64, -51);
        DUE.is("setMode from FREE to FLAT", x.setMode(0, 10, 1), 0);
        DUE.is("setMode from FLAT to FREE", x.setMode(0, 10, 0), 1);
        slopesAre(x, 0, 1, 0, 0);
        long before = x.checksum();
        DUE.is("setMode(4, 10, 7)", x.setMode(4, 10, 7), BAD_INDEX);
        DUE.is("setMode(0, 11, 7)", x.setMode(0, 11, 7), BAD_INDEX);
        DUE.is("setMode(0, 10, 7)", x.setMode(0, 10, 7), BAD_VALUE);
        DUE.is("setMode(0, 10, -1)", x.setMode(0, 10, -1), BAD_VALUE);
        DUE.is("checksum() after errors", x.checksum(), before);
    }

    private static void setModeFreeIsClamped() {
        KeyframeCurves x = new KeyframeCurves();
        x.setKey(0, 5, -999);
        x.setKey(0, 6, 999);
        x.setKey(0, 7, -999);
        x.setMode(0, 6, 2);
        slopesAre(x, 0, 1, 127872, -127872);
        x.setMode(0, 6, 0);
        slopesAre(x, 0, 1, 9999, -9999);
    }

    private static void setSlopes() {
        KeyframeCurves x = threeKeys();
        DUE.is("setSlopes(0, 20, -9999, 9999)", x.setSlopes(0, 20, -9999, 9999), 3);
        keyIs(x, 0, 2, 20, 3, 0);
        slopesAre(x, 0, 2, -9999, 9999);
        DUE.is("setSlopes(0, 20, 1, 2)", x.setSlopes(0, 20, 1, 2), 0);
        slopesAre(x, 0, 2, 1, 2);
        long before = x.checksum();
        DUE.is("setSlopes(4, 20, 10000, 0)", x.setSlopes(4, 20, 10000, 0), BAD_INDEX);
        DUE.is("setSlopes(0, 21, 10000, 0)", x.setSlopes(0, 21, 10000, 0), BAD_INDEX);
        DUE.is("setSlopes(0, 10, 10000, 0)", x.setSlopes(0, 10, 10000, 0), BAD_VALUE);
        DUE.is("setSlopes(0, 10, -10000, 0)", x.setSlopes(0, 10, -10000, 0), BAD_VALUE);
        DUE.is("setSlopes(0, 10, 0, 10000)", x.setSlopes(0, 10, 0, 10000), BAD_VALUE);
        DUE.is("setSlopes(0, 10, 0, -10000)", x.setSlopes(0, 10, 0, -10000), BAD_VALUE);
        DUE.is("checksum() after errors", x.checksum(), before);
    }

    private static void split() {
        KeyframeCurves x = new KeyframeCurves();
        x.setKey(2, 0, 0);
        x.setKey(2, 9, 9);
        x.setKey(2, 18, 0);
        x.setMode(2, 18, 2);
        int left = x.value(2, 3);
        int right = x.value(2, 5);
        DUE.is("split(2, 4)", x.split(2, 4), 1);
        DUE.is("keys(2)", x.keys(2), 4);
        keyIs(x, 2, 0, 0, 0, 0);
        slopesAre(x, 2, 0, 64, 64);
        keyIs(x, 2, 1, 4, 5, 0);
        int slope = Math.floorDiv(right - left + 1, 2);
        slopesAre(x, 2, 1, slope, slope);
        keyIs(x, 2, 2, 9, 9, 0);
        slopesAre(x, 2, 2, 0, 0);
        keyIs(x, 2, 3, 18, 0, 2);
        DUE.is("undo() after split", x.undo(), 4);
        keyIs(x, 2, 0, 0, 0, 3);
    }

    private static void splitAtHold() {
        KeyframeCurves x = new KeyframeCurves();
        x.setKey(0, 0, 5);
        x.setKey(0, 10, 20);
        x.setKey(0, 20, 40);
        x.setMode(0, 0, 6);
        DUE.is("split behind HOLD", x.split(0, 4), 1);
        keyIs(x, 0, 0, 0, 5, 6);
        keyIs(x, 0, 1, 4, 5, 6);
        slopesAre(x, 0, 1, 0, 0);
        keyIs(x, 0, 2, 10, 20, 0);
        slopesAre(x, 0, 2, 112, 112);
        x.setMode(0, 20, 6);
        DUE.is("split before HOLD", x.split(0, 15), 3);
        keyIs(x, 0, 3, 15, 32, 0);
        keyIs(x, 0, 4, 20, 40, 6);
    }

    private static void splitIsClamped() {
        KeyframeCurves x = new KeyframeCurves();
        x.setKey(0, 0, 999);
        x.setKey(0, 100, 999);
        x.setSlopes(0, 0, 0, 9999);
        DUE.is("value(0, 20)", x.value(0, 20), 191923);
        x.split(0, 20);
        DUE.is("value of a split above 999", x.valueOf(0, 1), 999);
        x.setKey(1, 0, -999);
        x.setKey(1, 100, -999);
        x.setSlopes(1, 0, 0, -9999);
        x.split(1, 20);
        DUE.is("value of a split below -999", x.valueOf(1, 1), -999);
        x.setKey(2, 0, -999);
        x.setKey(2, 2, 999);
        x.split(2, 1);
        keyIs(x, 2, 1, 1, 0, 0);
        slopesAre(x, 2, 0, 9999, 9999);
        slopesAre(x, 2, 1, 9999, 9999);
        x.setKey(3, 0, 999);
        x.setKey(3, 2, -999);
        x.split(3, 1);
        slopesAre(x, 3, 1, -9999, -9999);
    }

    private static void splitErrors() {
        KeyframeCurves x = threeKeys();
        long before = x.checksum();
        DUE.is("split(4, 5)", x.split(4, 5), BAD_INDEX);
        DUE.is("split(-1, 5)", x.split(-1, 5), BAD_INDEX);
        DUE.is("split(1, 5)", x.split(1, 5), BAD_VALUE);
        DUE.is("split(0, 0)", x.split(0, 0), BAD_VALUE);
        DUE.is("split(0, 10)", x.split(0, 10), BAD_VALUE);
        DUE.is("split(0, 20)", x.split(0, 20), BAD_VALUE);
        DUE.is("split(0, 21)", x.split(0, 21), BAD_VALUE);
        DUE.is("split(0, -1)", x.split(0, -1), BAD_VALUE);
        DUE.is("checksum() after errors", x.checksum(), before);
        for (int i = 0; i < 21; i++) {
            x.setKey(0, 30 + 2 * i, i);
        }
        before = x.checksum();
        DUE.is("split of a full curve", x.split(0, 31), FULL);
        DUE.is("split of a full curve at a key", x.split(0, 30), BAD_VALUE);
        DUE.is("checksum() after FULL", x.checksum(), before);
        x.removeKey(0, 70);
        DUE.is("split for the 24th key", x.split(0, 1), 1);
    }

    private static void clear() {
        KeyframeCurves x = threeKeys();
        x.setExtrapolation(0, 3, 4);
        x.setKey(1, 1, 1);
        DUE.is("clear(4)", x.clear(4), BAD_INDEX);
        DUE.is("clear(-1)", x.clear(-1), BAD_INDEX);
        DUE.is("keys(0) after errors", x.keys(0), 3);
        DUE.is("clear(0)", x.clear(0), 3);
        DUE.is("keys(0)", x.keys(0), 0);
        DUE.is("keys(1)", x.keys(1), 1);
        DUE.is("extrapolation after clear", x.setExtrapolation(0, 0, 0), 0);
        DUE.is("clear(0) again", x.clear(0), 0);
        DUE.is("undo() of the second clear", x.undo(), 7);
        DUE.is("undo() of setExtrapolation", x.undo(), 6);
        DUE.is("undo() of the first clear", x.undo(), 5);
        DUE.is("keys(0) after undo", x.keys(0), 3);
        DUE.is("extrapolation after undo", x.setExtrapolation(0, 0, 0), 34);
    }

    private static void setExtrapolation() {
        KeyframeCurves x = new KeyframeCurves();
        DUE.is("setExtrapolation(3, 4, 1)", x.setExtrapolation(3, 4, 1), 0);
        DUE.is("setExtrapolation(3, 0, 4)", x.setExtrapolation(3, 0, 4), 41);
        DUE.is("setExtrapolation(2, 1, 1)", x.setExtrapolation(2, 1, 1), 0);
        DUE.is("setExtrapolation(4, 5, 5)", x.setExtrapolation(4, 5, 5), BAD_INDEX);
        DUE.is("setExtrapolation(3, 5, 0)", x.setExtrapolation(3, 5, 0), BAD_VALUE);
        DUE.is("setExtrapolation(3, -1, 0)", x.setExtrapolation(3, -1, 0), BAD_VALUE);
        DUE.is("setExtrapolation(3, 0, 5)", x.setExtrapolation(3, 0, 5), BAD_VALUE);
        DUE.is("setExtrapolation(3, 0, -1)", x.setExtrapolation(3, 0, -1), BAD_VALUE);
        DUE.is("setExtrapolation(3, 0, 0)", x.setExtrapolation(3, 0, 0), 4);
    }

    private static void askedKeys() {
        KeyframeCurves x = threeKeys();
        DUE.is("keys(0)", x.keys(0), 3);
        DUE.is("keys(3)", x.keys(3), 0);
        for (int c : new int[] {-1, 4, Integer.MIN_VALUE, Integer.MAX_VALUE}) {
            DUE.is("keys of no curve", x.keys(c), BAD_INDEX);
            DUE.is("frameOf of no curve", x.frameOf(c, 0), BAD_INDEX);
            DUE.is("valueOf of no curve", x.valueOf(c, 0), BAD_INDEX);
            DUE.is("modeOf of no curve", x.modeOf(c, 0), BAD_INDEX);
            DUE.is("slope of no curve", x.slope(c, 0, true), BAD_INDEX);
        }
        for (int k : new int[] {-1, 3, 24, Integer.MIN_VALUE, Integer.MAX_VALUE}) {
            DUE.is("frameOf of no key", x.frameOf(0, k), BAD_INDEX);
            DUE.is("valueOf of no key", x.valueOf(0, k), BAD_INDEX);
            DUE.is("modeOf of no key", x.modeOf(0, k), BAD_INDEX);
            DUE.is("slope of no key", x.slope(0, k, false), BAD_INDEX);
        }
        x.setMode(0, 20, 5);
        DUE.is("frameOf(0, 2)", x.frameOf(0, 2), 20);
        DUE.is("valueOf(0, 2)", x.valueOf(0, 2), 3);
        DUE.is("modeOf(0, 2)", x.modeOf(0, 2), 5);
        x.removeKey(0, 20);
        DUE.is("frameOf of a removed key", x.frameOf(0, 2), BAD_INDEX);
    }

    /** The modes of the two inner keys of 0, 100, 130, 120, whose secants are 640, 192 and -64. */
    private static void slopesOfInnerKeys() {
        KeyframeCurves x = new KeyframeCurves();
        x.setKey(0, 0, 0);
        x.setKey(0, 10, 100);
        x.setKey(0, 20, 130);
        x.setKey(0, 30, 120);
        slopesAre(x, 0, 1, 416, 416);
        slopesAre(x, 0, 2, 64, 64);
        int[][] slopes = {{416, 416, 64, 64}, {0, 0, 0, 0}, {640, 192, 192, -64}, {416, 416, 64, 64},
            {416, 416, 0, 0}, {416, 416, 0, 0}, {0, 0, 0, 0}};
        for (int mode = 6; mode >= 1; mode--) {
            x.setMode(0, 10, mode);
            x.setMode(0, 20, mode);
            slopesAre(x, 0, 1, slopes[mode][0], slopes[mode][1]);
            slopesAre(x, 0, 2, slopes[mode][2], slopes[mode][3]);
        }
        x.setMode(0, 10, 4);
        x.setKey(0, 20, 100);
        slopesAre(x, 0, 1, 0, 0);
        x.setKey(0, 20, 101);
        slopesAre(x, 0, 1, 323, 323);
        x.setKey(0, 0, 200);
        slopesAre(x, 0, 1, 0, 0);
        x.setKey(0, 20, 99);
        slopesAre(x, 0, 1, -323, -323);
        x.setKey(0, 20, 100);
        slopesAre(x, 0, 1, 0, 0);
    }

    private static void slopesOfEnds() {
        KeyframeCurves x = new KeyframeCurves();
        x.setKey(0, 0, 0);
        x.setKey(0, 10, 100);
        x.setKey(0, 20, 130);
        int[][] slopes = {{0, 0, 0, 0}, {0, 0, 0, 0}, {640, 640, 192, 192}, {640, 640, 192, 192},
            {0, 0, 0, 0}, {0, 0, 0, 0}, {0, 0, 0, 0}};
        for (int mode = 6; mode >= 1; mode--) {
            x.setMode(0, 0, mode);
            x.setMode(0, 20, mode);
            slopesAre(x, 0, 0, slopes[mode][0], slopes[mode][1]);
            slopesAre(x, 0, 2, slopes[mode][2], slopes[mode][3]);
        }
        for (int mode = 4; mode <= 5; mode++) {
            for (int value = -150; value <= 150; value += 50) {
                x.setKey(0, 0, value);
                x.setKey(0, 20, value);
                x.setMode(0, 0, mode);
                x.setMode(0, 20, mode);
                slopesAre(x, 0, 0, 0, 0);
                slopesAre(x, 0, 2, 0, 0);
            }
        }
    }

    private static void slopesOfMonotone() {
        KeyframeCurves x = new KeyframeCurves();
        x.setKey(0, 0, 0);
        x.setKey(0, 10, 1);
        x.setKey(0, 20, 100);
        x.setMode(0, 10, 5);
        slopesAre(x, 0, 1, 18, 18);
        x.setKey(0, 10, -1);
        x.setKey(0, 20, -100);
        slopesAre(x, 0, 1, -18, -18);
        x.setKey(0, 10, -99);
        slopesAre(x, 0, 1, -18, -18);
        x.setKey(0, 10, 0);
        slopesAre(x, 0, 1, 0, 0);
        x.setKey(0, 10, 1);
        slopesAre(x, 0, 1, 0, 0);
        x.setKey(0, 10, -100);
        slopesAre(x, 0, 1, 0, 0);
        x.setKey(2, 5, 10);
        x.setKey(2, 15, 11);
        x.setKey(2, 25, 110);
        x.setMode(2, 15, 5);
        slopesAre(x, 2, 1, 18, 18);
        x.setKey(2, 0, 500);
        slopesAre(x, 2, 2, 18, 18);
        // The secants here are 1 and -1 on one side.
        x.setKey(3, 10, 0);
        x.setKey(3, 74, 1);
        x.setKey(3, 80, 100);
        x.setMode(3, 74, 5);
        slopesAre(x, 3, 1, 3, 3);
        x.setKey(3, 74, -1);
        x.setKey(3, 80, -100);
        slopesAre(x, 3, 1, -3, -3);
        x.clear(3);
        x.setKey(3, 10, 0);
        x.setKey(3, 16, 99);
        x.setKey(3, 80, 100);
        x.setMode(3, 16, 5);
        slopesAre(x, 3, 1, 3, 3);
        x.setKey(3, 16, -99);
        x.setKey(3, 80, -100);
        slopesAre(x, 3, 1, -3, -3);
        // The secant of the keys at 0 and 200 is rounded to 0, so that the slope is 0 too.
        x.setKey(1, 0, 0);
        x.setKey(1, 200, 1);
        x.setKey(1, 210, 100);
        x.setMode(1, 200, 5);
        slopesAre(x, 1, 1, 0, 0);
    }

    private static void slopesAreRoundedUp() {
        KeyframeCurves x = new KeyframeCurves();
        x.setKey(0, 0, 0);
        x.setKey(0, 128, 1);
        slopesAre(x, 0, 0, 1, 1);
        x.setKey(0, 128, -1);
        slopesAre(x, 0, 0, 0, 0);
        x.setKey(0, 128, -3);
        slopesAre(x, 0, 0, -1, -1);
        x.moveKey(0, 128, 127);
        slopesAre(x, 0, 1, -2, -2);
    }

    private static void slopesOfOneKey() {
        KeyframeCurves x = new KeyframeCurves();
        x.setKey(0, 100, 50);
        for (int mode = 6; mode >= 0; mode--) {
            x.setMode(0, 100, mode);
            slopesAre(x, 0, 0, 0, 0);
        }
        x.setSlopes(0, 100, 7, -8);
        slopesAre(x, 0, 0, 7, -8);
        x.setKey(0, 110, 90);
        x.removeKey(0, 110);
        for (int mode = 6; mode >= 1; mode--) {
            x.setMode(0, 100, mode);
            slopesAre(x, 0, 0, 0, 0);
        }
    }

    private static KeyframeCurves threeKeys() {
        KeyframeCurves x = new KeyframeCurves();
        x.setKey(0, 20, 3);
        x.setKey(0, 0, 1);
        x.setKey(0, 10, 2);
        return x;
    }

    private static void keyIs(KeyframeCurves x, int curve, int key, int frame, int value, int mode) {
        DUE.is("frameOf(" + curve + ", " + key + ")", x.frameOf(curve, key), frame);
        DUE.is("valueOf(" + curve + ", " + key + ")", x.valueOf(curve, key), value);
        DUE.is("modeOf(" + curve + ", " + key + ")", x.modeOf(curve, key), mode);
    }

    private static void slopesAre(KeyframeCurves x, int curve, int key, int in, int out) {
        DUE.is("slope(" + curve + ", " + key + ", false)", x.slope(curve, key, false), in);
        DUE.is("slope(" + curve + ", " + key + ", true)", x.slope(curve, key, true), out);
    }
}
