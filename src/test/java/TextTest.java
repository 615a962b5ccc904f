/** Promises 28 to 33: the text, its faults, curves and formulas from it, and the values of formulas. */
public final class TextTest {
    private static final Due DUE = new Due("TextTest");
    private static final int BAD_INDEX = KeyframeCurves.BAD_INDEX;
    private static final int BAD_VALUE = KeyframeCurves.BAD_VALUE;
    private static final int FULL = KeyframeCurves.FULL;
    private static final int NONE = KeyframeCurves.NONE;

    public static void main(String[] args) {
        append();
        clearText();
        formulasWithoutFault();
        formulaFaults();
        nesting();
        curvesWithoutFault();
        curveFaults();
        tooManyKeys();
        readCurve();
        readCurveErrors();
        readFormula();
        readFormulaErrors();
        mixOfNumbers();
        mixOfCurves();
        mixIsLimited();
        mixIsRounded();
        mixErrors();
        textOf120Letters();
        DUE.finish();
    }

    private static KeyframeCurves typed(String text) {
        KeyframeCurves x = new KeyframeCurves();
        type(x, text);
        return x;
    }

    private static void type(KeyframeCurves x, String text) {
        x.clearText();
        for (int i = 0; i < text.length(); i++) {
            DUE.is("append at " + i, x.append(text.charAt(i)), i + 1);
        }
    }

    private static void append() {
        KeyframeCurves x = new KeyframeCurves();
        DUE.is("append(-1)", x.append(-1), BAD_VALUE);
        DUE.is("append(128)", x.append(128), BAD_VALUE);
        DUE.is("append(max)", x.append(Integer.MAX_VALUE), BAD_VALUE);
        DUE.is("append(0)", x.append(0), 1);
        DUE.is("append(127)", x.append(127), 2);
        for (int i = 3; i <= 120; i++) {
            DUE.is("append(55)", x.append(55), i);
        }
        DUE.is("append(55) to a full text", x.append(55), FULL);
        DUE.is("append(128) to a full text", x.append(128), BAD_VALUE);
        DUE.is("clearText()", x.clearText(), 120);
        DUE.is("append(55)", x.append(55), 1);
    }

    private static void clearText() {
        KeyframeCurves x = typed("12*");
        DUE.is("clearText()", x.clearText(), 3);
        DUE.is("clearText() again", x.clearText(), 0);
        DUE.is("append(97)", x.append(97), 1);
        DUE.is("faultPosition(true)", x.faultPosition(true), NONE);
        DUE.is("undo()", x.undo(), NONE);
    }

    private static void formulaFault(String text, int want) {
        KeyframeCurves x = typed(text);
        DUE.is("faultPosition(true) of " + text, x.faultPosition(true), want);
        DUE.is("faultPosition(true) again of " + text, x.faultPosition(true), want);
    }

    private static void formulasWithoutFault() {
        for (String text : new String[] {"0", "999", "007", "a", "d", "b@0", "c@999", "1+2-3*4", "-1", "--1", "1--1", "1*-1",
            "(1)", "((1))", "min(1,2)", "max(a,b)", "min(1+2,max(a,b)*3)", "-(1)", "-a@5*-b", "(a+b)*(c-d)", "min(-1,(2))"}) {
            formulaFault(text, NONE);
        }
    }

    private static void formulaFaults() {
        formulaFault("", 0);
        formulaFault("1000", 0);
        formulaFault("0001", 0);
        formulaFault("1+2345+", 2);
        formulaFault("a@1234", 2);
        formulaFault("a@", 2);
        formulaFault("a@b", 2);
        formulaFault("a@-5", 2);
        formulaFault("a@5@6", 3);
        formulaFault("e", 0);
        formulaFault("A", 0);
        formulaFault("n", 0);
        formulaFault("ab", 1);
        formulaFault("12a", 2);
        formulaFault("12@3", 2);
        formulaFault("1 +2", 1);
        formulaFault(" 1", 0);
        formulaFault("1+", 2);
        formulaFault("1*", 2);
        formulaFault("-", 1);
        formulaFault("+1", 0);
        formulaFault("*1", 0);
        formulaFault("1+*2", 2);
        formulaFault("1-+2", 2);
        formulaFault("(", 1);
        formulaFault("()", 1);
        formulaFault("(1", 2);
        formulaFault("(1,2)", 2);
        formulaFault("1)", 1);
        formulaFault("(1))", 3);
        formulaFault("1,2", 1);
        formulaFault("m", 1);
        formulaFault("mi", 2);
        formulaFault("ma", 2);
        formulaFault("min", 3);
        formulaFault("max", 3);
        formulaFault("mn(", 1);
        formulaFault("mia", 2);
        formulaFault("man", 2);
        formulaFault("mix(1,2)", 2);
        formulaFault("min1", 3);
        formulaFault("min(", 4);
        formulaFault("min()", 4);
        formulaFault("min(1)", 5);
        formulaFault("min(1,", 6);
        formulaFault("min(1,2", 7);
        formulaFault("min(1,2,3)", 7);
        formulaFault("min(1,2)3", 8);
        formulaFault("max(1;2)", 5);
        formulaFault("1/2", 1);
        formulaFault("1\u0000", 1);
    }

    private static void nesting() {
        formulaFault("((((((((1))))))))", NONE);
        formulaFault("(((((((((1)))))))))", 8);
        formulaFault("--------1", NONE);
        formulaFault("---------1", 8);
        formulaFault("-(-(-(-(1))))", NONE);
        formulaFault("-(-(-(-(-1))))", 8);
        formulaFault("-(-(-(-((1)))))", 8);
        formulaFault("((((((((min(1,2)", 11);
        formulaFault("((((((((max(1,2)", 11);
        formulaFault("((((((((mix(1,2)", 10);
        formulaFault("((((((((min", 11);
        formulaFault("(((((((min(1,2)))))))))", 22);
        formulaFault("(((((((min(1,2))))))))", NONE);
        formulaFault("(((((((min(1,(2))", 13);
        formulaFault("(((((((min(-1,2)", 11);
        formulaFault("((((((min(1,(2)))))))))", 22);
        formulaFault("((((((min(1,(2))))))))", NONE);
        formulaFault("((((((min((1),2)))))))", NONE);
        formulaFault("((((((max(1,--2", 13);
        formulaFault("((((((max(--1", 11);
        formulaFault("--------1*--------1+(((((((-1)))))))-((((((((2))))))))", NONE);
        formulaFault("((((((((1+-1", 10);
    }

    private static void curveFault(String text, int want) {
        KeyframeCurves x = typed(text);
        DUE.is("faultPosition(false) of " + text, x.faultPosition(false), want);
        DUE.is("faultPosition(false) again of " + text, x.faultPosition(false), want);
    }

    private static void curvesWithoutFault() {
        for (String text : new String[] {"0:0;", "480:999;", "0:-999;", "000:-000T;", "1:1T,2:2L,3:3A,4:4C,5:5M,6:6H,7:7;"}) {
            curveFault(text, NONE);
        }
    }

    private static void curveFaults() {
        curveFault("", 0);
        curveFault(";", 0);
        curveFault(":", 0);
        curveFault("-1:2;", 0);
        curveFault("a:2;", 0);
        curveFault("1", 1);
        curveFault("1;", 1);
        curveFault("1:", 2);
        curveFault("1:;", 2);
        curveFault("1:-", 3);
        curveFault("1:--2;", 3);
        curveFault("1:+2;", 2);
        curveFault("1:2", 3);
        curveFault("1:2L", 4);
        curveFault("1:2LL;", 4);
        curveFault("1:2F;", 3);
        curveFault("1:2t;", 3);
        curveFault("1:2 ;", 3);
        curveFault("1:2;;", 4);
        curveFault("1:2;3:4;", 4);
        curveFault("1:2,", 4);
        curveFault("1:2,;", 4);
        curveFault("1:2H,", 5);
        curveFault("0480:1;", 0);
        curveFault("481:1;", 0);
        curveFault("999", 0);
        curveFault("1:1000;", 2);
        curveFault("1:-1000;", 3);
        curveFault("1:0001;", 2);
        curveFault("5:1,5:2;", 4);
        curveFault("5:1,4:2;", 4);
        curveFault("5:1,4", 4);
        curveFault("5:1,0006:2;", 4);
        curveFault("5:1,481:2;", 4);
        curveFault("5:1,6:2,6:3;", 8);
        curveFault("5:1L,60:2,0:3;", 10);
    }

    /** Keys at the frames 0, 1, 2 and so on, without the semicolon. */
    private static String manyKeys(int count) {
        StringBuilder text = new StringBuilder();
        for (int i = 0; i < count; i++) {
            text.append(i == 0 ? "" : ",").append(i).append(":").append(i % 10);
        }
        return text.toString();
    }

    private static void tooManyKeys() {
        String text = manyKeys(24);
        curveFault(text + ";", NONE);
        curveFault(text, text.length());
        curveFault(text + ",", text.length());
        curveFault(text + ",24:1;", text.length());
        curveFault(text + "H,x", text.length() + 1);
        KeyframeCurves x = typed(text + ";");
        x.setKey(2, 470, 3);
        DUE.is("readCurve(2)", x.readCurve(2), 24);
        for (int i = 0; i < 24; i++) {
            DUE.is("frameOf(2, " + i + ")", x.frameOf(2, i), i);
            DUE.is("valueOf(2, " + i + ")", x.valueOf(2, i), i % 10);
        }
    }

    private static void readCurve() {
        KeyframeCurves x = typed("1:-10T,2:20L,3:30A,40:40C,50:-50M,60:60H,480:999;");
        x.setKey(3, 470, 3);
        x.setSlopes(3, 470, 8, 9);
        x.setExtrapolation(3, 2, 3);
        DUE.is("readCurve(3)", x.readCurve(3), 7);
        int[] frames = {1, 2, 3, 40, 50, 60, 480};
        int[] values = {-10, 20, 30, 40, -50, 60, 999};
        int[] modes = {1, 2, 3, 4, 5, 6, 3};
        for (int i = 0; i < 7; i++) {
            DUE.is("frameOf(3, " + i + ")", x.frameOf(3, i), frames[i]);
            DUE.is("valueOf(3, " + i + ")", x.valueOf(3, i), values[i]);
            DUE.is("modeOf(3, " + i + ")", x.modeOf(3, i), modes[i]);
        }
        DUE.is("setExtrapolation(3, 2, 3)", x.setExtrapolation(3, 2, 3), 23);
        DUE.is("readCurve(0) of the same text", x.readCurve(0), 7);
        // The curve is apart from the text, and from the other curve.
        x.setKey(3, 1, 5);
        DUE.is("valueOf(0, 0)", x.valueOf(0, 0), -10);
        DUE.is("readCurve(1) of the same text", x.readCurve(1), 7);
        DUE.is("valueOf(1, 0)", x.valueOf(1, 0), -10);
        DUE.is("undo()", x.undo(), 7);
        DUE.is("keys(1)", x.keys(1), 0);
        DUE.is("clearText()", x.clearText(), 49);
    }

    private static void readCurveErrors() {
        KeyframeCurves x = typed("1:10,2:x;");
        x.setKey(0, 4, 5);
        long before = x.checksum();
        DUE.is("readCurve(4)", x.readCurve(4), BAD_INDEX);
        DUE.is("readCurve(-1)", x.readCurve(-1), BAD_INDEX);
        DUE.is("readCurve(0)", x.readCurve(0), BAD_VALUE);
        DUE.is("checksum() after errors", x.checksum(), before);
        DUE.is("clearText()", x.clearText(), 9);
        DUE.is("readCurve(0) of no text", x.readCurve(0), BAD_VALUE);
        DUE.is("undo() after errors", x.undo(), 0);
    }

    private static void formula(KeyframeCurves x, String text, int operands) {
        type(x, text);
        DUE.is("readFormula() of " + text, x.readFormula(), operands);
    }

    private static void readFormula() {
        KeyframeCurves x = new KeyframeCurves();
        formula(x, "7", 1);
        formula(x, "a@55", 1);
        formula(x, "-a+max(b@12,-7)*(c-100)", 5);
        formula(x, "1+2", 2);
        type(x, "8");
        DUE.is("mix(0) before the text is read", x.mix(0), 192);
        DUE.is("readFormula()", x.readFormula(), 1);
        DUE.is("readFormula() again", x.readFormula(), 1);
        DUE.is("mix(0)", x.mix(0), 512);
        DUE.is("clearText()", x.clearText(), 1);
        DUE.is("mix(0) after clearText()", x.mix(0), 512);
        DUE.is("undo()", x.undo(), 5);
        DUE.is("undo()", x.undo(), 4);
        DUE.is("mix(0) after undo", x.mix(0), 192);
    }

    private static void readFormulaErrors() {
        KeyframeCurves x = new KeyframeCurves();
        formula(x, "5", 1);
        type(x, "6+");
        long before = x.checksum();
        DUE.is("readFormula() with a fault", x.readFormula(), BAD_VALUE);
        x.clearText();
        DUE.is("readFormula() of no text", x.readFormula(), BAD_VALUE);
        type(x, "1:2;");
        DUE.is("readFormula() of a curve", x.readFormula(), BAD_VALUE);
        DUE.is("mix(0)", x.mix(0), 320);
        DUE.is("checksum() after errors", x.checksum(), before);
        DUE.is("undo() after errors", x.undo(), 0);
    }

    private static void mixIs(KeyframeCurves x, String text, int frame, int want) {
        type(x, text);
        x.readFormula();
        DUE.is("mix(" + frame + ") of " + text, x.mix(frame), want);
    }

    private static void mixOfNumbers() {
        KeyframeCurves x = new KeyframeCurves();
        mixIs(x, "7", 960, 448);
        mixIs(x, "10-2-3", 0, 320);
        mixIs(x, "10-(2-3)", 0, 704);
        mixIs(x, "2+3*4", 0, 896);
        mixIs(x, "(2+3)*4", 0, 1280);
        mixIs(x, "-2*3", 0, -384);
        mixIs(x, "2*-3", 0, -384);
        mixIs(x, "2--3", 0, 320);
        mixIs(x, "--3", 0, 192);
        mixIs(x, "min(2,3)", 0, 128);
        mixIs(x, "max(2,3)", 0, 192);
        mixIs(x, "min(3,2)+max(-1,-2)", 0, 64);
        mixIs(x, "max(1,min(5,9)*2-1)", 0, 576);
        mixIs(x, "1-max(1,2)*3+-(4-min(5,2))", 0, -448);
        mixIs(x, "007", 0, 448);
    }

    private static void mixOfCurves() {
        KeyframeCurves x = new KeyframeCurves();
        x.setKey(0, 10, 1);
        x.setKey(0, 20, 3);
        x.setExtrapolation(0, 1, 1);
        x.setKey(1, 0, -5);
        x.setKey(3, 0, 2);
        mixIs(x, "a", 11, 77);
        mixIs(x, "a@4", 15, 77);
        mixIs(x, "a@15", 15, -66);
        mixIs(x, "a@16", 15, -66);
        mixIs(x, "a@999", 960, -66);
        mixIs(x, "a@0", 960, 12412);
        mixIs(x, "b", 960, -320);
        mixIs(x, "c", 500, 0);
        mixIs(x, "c@7-1", 500, -64);
        mixIs(x, "d*d@3", 500, 256);
        mixIs(x, "a-a@1", 22, 13);
        mixIs(x, "a", 22, 218);
        x.clear(0);
        DUE.is("mix(22) without keys", x.mix(22), 0);
    }

    private static void mixIsLimited() {
        KeyframeCurves x = new KeyframeCurves();
        mixIs(x, "999*15", 0, 959040);
        mixIs(x, "999*16", 0, 1000000);
        mixIs(x, "-999*16", 0, -1000000);
        mixIs(x, "999*16+1", 0, 1000000);
        mixIs(x, "999*16-1", 0, 999936);
        mixIs(x, "-999*16-1", 0, -1000000);
        mixIs(x, "999*999*999*0+1", 0, 64);
        // 127,872 parts a frame: a curve itself may be above the limit, and min and max leave it there.
        x.setKey(0, 0, -999);
        x.setKey(0, 1, 999);
        x.setExtrapolation(0, 0, 1);
        int far = 63936 + 99 * 127872;
        mixIs(x, "a", 100, far);
        mixIs(x, "max(a,1)", 100, far);
        mixIs(x, "(a)", 100, far);
        mixIs(x, "min(-a,1)", 100, -1000000);
        mixIs(x, "--a", 100, 1000000);
        mixIs(x, "a+0", 100, 1000000);
        mixIs(x, "a-a@1", 100, 127872);
        mixIs(x, "a*0", 100, 0);
        mixIs(x, "a*a", 960, 1000000);
        x.setKey(0, 0, 999);
        x.setKey(0, 1, -999);
        mixIs(x, "a*a", 960, 1000000);
        mixIs(x, "0-a", 960, 1000000);
        mixIs(x, "0+a", 960, -1000000);
        mixIs(x, "-a", 960, 1000000);
        mixIs(x, "min(1,a)", 960, -63936 - 959 * 127872);
    }

    private static void mixIsRounded() {
        KeyframeCurves x = new KeyframeCurves();
        x.setKey(0, 0, 0);
        x.setKey(0, 64, 1);
        x.setMode(0, 0, 2);
        x.setMode(0, 64, 2);
        mixIs(x, "a", 8, 8);
        mixIs(x, "a*a", 8, 1);
        mixIs(x, "a*a@1", 6, 0);
        mixIs(x, "a*a@4", 8, 1);
        mixIs(x, "-a*a@4", 8, 0);
        mixIs(x, "-a*a@3", 8, -1);
        mixIs(x, "a*a*4", 4, 0);
    }

    private static void mixErrors() {
        KeyframeCurves x = new KeyframeCurves();
        DUE.is("mix(-1)", x.mix(-1), BAD_VALUE);
        DUE.is("mix(961)", x.mix(961), BAD_VALUE);
        DUE.is("mix(min)", x.mix(Integer.MIN_VALUE), BAD_VALUE);
        DUE.is("mix(0)", x.mix(0), 0);
        DUE.is("mix(960)", x.mix(960), 0);
    }

    private static void textOf120Letters() {
        StringBuilder sum = new StringBuilder("11");
        for (int i = 0; i < 59; i++) {
            sum.append(i % 2 == 0 ? "+1" : "-2");
        }
        KeyframeCurves x = new KeyframeCurves();
        formula(x, sum.toString(), 60);
        DUE.is("mix(0) of 60 factors", x.mix(0), 64 * (11 + 30 - 58));
        StringBuilder deep = new StringBuilder();
        for (int i = 0; i < 8; i++) {
            deep.append("1+2*max(");
        }
        deep.append("1,2");
        for (int i = 0; i < 7; i++) {
            deep.append("),3");
        }
        deep.append(")");
        formula(x, deep.toString(), 8 * 3 + 2 - 1);
        DUE.is("mix(0) of a deep formula", x.mix(0), 64 * 767);
        StringBuilder name = new StringBuilder();
        for (int i = 0; i < 59; i++) {
            name.append("a+");
        }
        formula(x, name + "b", 60);
        type(x, name + "1+");
        DUE.is("faultPosition(true) of a full text", x.faultPosition(true), 120);
    }
}
