/** Each sentence of "Formulas" and of promises 28 to 33 that names a boundary case: at the bound, beyond it, and refused. */
public final class BoundsOfTextsTest {
    private static final Due DUE = new Due("BoundsOfTextsTest");
    private static final int BAD_INDEX = Run.BAD_INDEX;
    private static final int BAD_VALUE = Run.BAD_VALUE;
    private static final int FULL = Run.FULL;
    private static final int NONE = Run.NONE;
    private static final boolean FORMULA = true;
    private static final boolean CURVE = false;

    public static void main(String[] args) {
        appendLetters();
        atMost120Bytes();
        clearTextOfEmptyAndFull();
        emptyText();
        oneLetterAsFormula();
        oneLetterAsCurve();
        letterBehindAFactor();
        letterBehindACurve();
        letterBehindAValue();
        digitsOfFormulas();
        digitsOfCurves();
        framesOfCurves();
        framesIncreaseStrictly();
        modesOfCurves();
        endOfTextTooEarly();
        nestedParentheses();
        nestedSigns();
        nestedMinAndMax();
        nestedAllTogether();
        nestingEndsBehindAFactor();
        atMost24KeysInATextOfACurve();
        fullTexts();
        faultPositionIsNoChange();
        readCurveBounds();
        readCurveReplacesAllKeys();
        readCurveOf24Keys();
        readFormulaBounds();
        readFormulaCounts();
        readFormulaInPlaceOfALongerOne();
        mixFrames();
        mixEarlierFrames();
        mixWithoutKeys();
        mixOfNumbers();
        mixFromTheLeft();
        mixLimitsSums();
        mixLimitsProducts();
        mixLimitsSigns();
        mixLimitsNothingElse();
        mixRoundsProducts();
        mixOfTheLessAndTheGreater();
        DUE.finish();
    }

    private static Run run(String sentence) {
        return new Run(DUE, sentence);
    }

    private static void fault(String sentence, boolean formula, String text, int want) {
        Run run = run(sentence + " " + text).type(text).is("faultPosition(" + formula + ")", want);
        if (want == NONE) {
            run.allows(formula ? "readFormula()" : "readCurve(0)");
        } else {
            run.refuses(BAD_VALUE, formula ? "readFormula()" : "readCurve(0)");
        }
    }

    private static String times(int count, String text) {
        return text.repeat(count);
    }

    private static void appendLetters() {
        Run run = run("append: letter 0 to 127");
        run.refuses(BAD_VALUE, "append(-1)", "append(128)", "append(MIN)", "append(MAX)");
        run.is("append(0)", 1).is("append(127)", 2).refuses(BAD_VALUE, "append(-1)", "append(128)");
        run.is("faultPosition(true)", 0).is("clearText()", 2);
    }

    private static void atMost120Bytes() {
        Run run = run("append: FULL if it has 120 bytes").type(times(119, "1"));
        run.is("append(43)", 120).refuses(FULL, "append(49)", "append(0)", "append(127)");
        run.refuses(BAD_VALUE, "append(-1)", "append(128)", "append(MAX)").is("clearText()", 120).is("append(49)", 1);
        run.is("faultPosition(true)", NONE);
    }

    private static void clearTextOfEmptyAndFull() {
        Run run = run("clearText: the length that it had");
        run.is("clearText()", 0).is("append(49)", 1).is("clearText()", 1).is("clearText()", 0);
        run.type(times(120, "a")).is("clearText()", 120).is("clearText()", 0).refuses(NONE, "undo()");
    }

    private static void emptyText() {
        fault("an empty text", FORMULA, "", 0);
        fault("an empty text", CURVE, "", 0);
    }

    private static void oneLetterAsFormula() {
        for (char letter = 0; letter < 128; letter++) {
            boolean whole = "0123456789abcd".indexOf(letter) >= 0;
            boolean begun = "(-m".indexOf(letter) >= 0;
            fault("a formula of the letter " + (int) letter, FORMULA, "" + letter, whole ? NONE : begun ? 1 : 0);
        }
    }

    private static void oneLetterAsCurve() {
        for (char letter = 0; letter < 128; letter++) {
            boolean begun = "0123456789".indexOf(letter) >= 0;
            fault("a curve of the letter " + (int) letter, CURVE, "" + letter, begun ? 1 : 0);
        }
    }

    private static void letterBehindAFactor() {
        for (char letter = 0; letter < 128; letter++) {
            boolean whole = "0123456789".indexOf(letter) >= 0;
            boolean begun = "+-*".indexOf(letter) >= 0;
            fault("behind a number the letter " + (int) letter, FORMULA, "1" + letter, whole ? NONE : begun ? 2 : 1);
            fault("behind a parenthesis the letter " + (int) letter, FORMULA, "(1)" + letter, begun ? 4 : 3);
        }
    }

    private static void letterBehindACurve() {
        for (char letter = 0; letter < 128; letter++) {
            boolean begun = "+-*@".indexOf(letter) >= 0;
            fault("behind a curve the letter " + (int) letter, FORMULA, "d" + letter, begun ? 2 : 1);
            boolean digit = "0123456789".indexOf(letter) >= 0;
            fault("behind @ the letter " + (int) letter, FORMULA, "a@" + letter, digit ? NONE : 2);
        }
    }

    private static void letterBehindAValue() {
        for (char letter = 0; letter < 128; letter++) {
            boolean begun = "0123456789,TLACMH".indexOf(letter) >= 0;
            fault("behind a value the letter " + (int) letter, CURVE, "1:2" + letter, letter == ';' ? NONE : begun ? 4 : 3);
            begun = "-0123456789".indexOf(letter) >= 0;
            fault("behind a colon the letter " + (int) letter, CURVE, "1:" + letter, begun ? 3 : 2);
            fault("behind a mode the letter " + (int) letter, CURVE, "1:2T" + letter, letter == ';' ? NONE : letter == ',' ? 5 : 4);
        }
    }

    private static void digitsOfFormulas() {
        String told = "a number has one to three digits:";
        for (String text : new String[] {"0", "9", "00", "99", "000", "999", "a@0", "a@99", "a@000", "a@999", "999+999"}) {
            fault(told, FORMULA, text, NONE);
        }
        fault(told, FORMULA, "0000", 0);
        fault(told, FORMULA, "1000", 0);
        fault(told, FORMULA, "9999", 0);
        fault(told, FORMULA, "1000+", 0);
        fault(told, FORMULA, "1+0000", 2);
        fault(told, FORMULA, "(1000)", 1);
        fault(told, FORMULA, "-1000", 1);
        fault(told, FORMULA, "min(1,1000)", 6);
        fault(told, FORMULA, "a@1000", 2);
        fault(told, FORMULA, "a@0000", 2);
        fault(told, FORMULA, times(120, "9"), 0);
        fault(told, FORMULA, "a@" + times(118, "9"), 2);
    }

    private static void digitsOfCurves() {
        String told = "a number has one to three digits:";
        for (String text : new String[] {"0:0;", "00:00;", "000:000;", "1:999;", "1:-999;", "1:-0;", "009:1,10:1;"}) {
            fault(told, CURVE, text, NONE);
        }
        fault(told, CURVE, "0000:1;", 0);
        fault(told, CURVE, "1000:1;", 0);
        fault(told, CURVE, "0000", 0);
        fault(told, CURVE, "1:0000;", 2);
        fault(told, CURVE, "1:1000;", 2);
        fault(told, CURVE, "1:-0999;", 3);
        fault(told, CURVE, "1:-1000", 3);
        fault(told, CURVE, "1:1,0002:1;", 4);
        fault(told, CURVE, times(120, "0"), 0);
        fault(told, CURVE, "1:-" + times(117, "0"), 3);
    }

    private static void framesOfCurves() {
        String told = "for a frame above 480 the first byte of the number:";
        fault(told, CURVE, "0:1;", NONE);
        fault(told, CURVE, "480:1;", NONE);
        fault(told, CURVE, "479:1,480:1;", NONE);
        fault(told, CURVE, "481:1;", 0);
        fault(told, CURVE, "999:1;", 0);
        fault(told, CURVE, "480:1,481:1;", 6);
        fault(told, CURVE, "0:1,481:1;", 4);
        fault(told, CURVE, "481x", 0);
    }

    private static void framesIncreaseStrictly() {
        String told = "for a frame that does not increase the first byte of the number:";
        fault(told, CURVE, "0:1,1:1,2:1;", NONE);
        fault(told, CURVE, "0:1,0:1;", 4);
        fault(told, CURVE, "1:1,1:1;", 4);
        fault(told, CURVE, "1:1,0:1;", 4);
        fault(told, CURVE, "1:1,001:1;", 4);
        fault(told, CURVE, "1:1,3:1,2:1;", 8);
        fault(told, CURVE, "1:1,3:1,3:1;", 8);
        fault(told, CURVE, "480:1,480:1;", 6);
        fault(told, CURVE, "9:1,10:1;", NONE);
    }

    private static void modesOfCurves() {
        Run run = run("a mode is one of the letters; without a letter it is AUTO");
        run.type("1:-1T,2:2L,3:-3A,4:4C,5:-5M,6:6H,7:-7;").is("faultPosition(false)", NONE).is("readCurve(1)", 7);
        int[] modes = {1, 2, 3, 4, 5, 6, 3};
        for (int key = 0; key < 7; key++) {
            run.is("frameOf(1, " + key + ")", key + 1).is("modeOf(1, " + key + ")", modes[key]);
            run.is("valueOf(1, " + key + ")", key % 2 == 0 ? -key - 1 : key + 1);
        }
        run.type("0:-0;").is("readCurve(1)", 1).is("valueOf(1, 0)", 0);
    }

    private static void endOfTextTooEarly() {
        String told = "if the text ends too early, it is its length:";
        String formula = "min(a@1,-(b*2))";
        for (int length = 0; length < formula.length(); length++) {
            fault(told, FORMULA, formula.substring(0, length), length);
        }
        fault(told, FORMULA, formula, NONE);
        fault(told, FORMULA, "max", 3);
        fault(told, FORMULA, "a+", 2);
        String curve = "12:-34L,200:5;";
        for (int length = 0; length < curve.length(); length++) {
            // Cut off behind its 2, the second frame does not increase: then it is the first byte of that number.
            fault(told, CURVE, curve.substring(0, length), length == 9 ? 8 : length);
        }
        fault(told, CURVE, curve, NONE);
    }

    private static void nestedParentheses() {
        String told = "nested at most 8 deep: parentheses";
        fault(told, FORMULA, times(8, "(") + "1" + times(8, ")"), NONE);
        fault(told, FORMULA, times(9, "(") + "1" + times(9, ")"), 8);
        fault(told, FORMULA, times(10, "(") + "1" + times(10, ")"), 8);
        fault(told, FORMULA, times(8, "("), 8);
        fault(told, FORMULA, times(9, "("), 8);
        fault(told, FORMULA, times(120, "("), 8);
        fault(told, FORMULA, times(8, "(") + "1+(1)", 10);
        fault(told, FORMULA, times(7, "(") + "1+(1)" + times(7, ")"), NONE);
    }

    private static void nestedSigns() {
        String told = "nested at most 8 deep: signs";
        fault(told, FORMULA, times(8, "-") + "1", NONE);
        fault(told, FORMULA, times(9, "-") + "1", 8);
        fault(told, FORMULA, times(8, "-"), 8);
        fault(told, FORMULA, times(120, "-"), 8);
        fault(told, FORMULA, "1-" + times(8, "-") + "1", NONE);
        fault(told, FORMULA, "1-" + times(9, "-") + "1", 10);
        fault(told, FORMULA, "1*" + times(8, "-") + "1", NONE);
        fault(told, FORMULA, "1*" + times(9, "-") + "1", 10);
        fault(told, FORMULA, times(8, "-") + "a@-1", 10);
    }

    private static void nestedMinAndMax() {
        String told = "nested at most 8 deep: min and max";
        for (String name : new String[] {"min(", "max("}) {
            fault(told, FORMULA, times(8, name) + "1" + times(8, ",2)"), NONE);
            fault(told, FORMULA, times(9, name) + "1" + times(9, ",2)"), 35);
            fault(told, FORMULA, times(8, name + "1,") + "2" + times(8, ")"), NONE);
            fault(told, FORMULA, times(9, name + "1,") + "2" + times(9, ")"), 51);
            fault(told, FORMULA, times(8, "(") + name, 11);
            fault(told, FORMULA, times(8, "(") + name.substring(0, 3), 11);
            fault(told, FORMULA, times(8, "(") + name.substring(0, 3) + "x", 11);
            fault(told, FORMULA, times(8, "-") + name + "1,2)", 11);
        }
        fault(told, FORMULA, times(8, "(") + "mix", 10);
    }

    private static void nestedAllTogether() {
        String told = "nested at most 8 deep, all together:";
        fault(told, FORMULA, "-(min(max(-(min(max(1,2),3)),4),5))", NONE);
        fault(told, FORMULA, "-(min(max(-(min(max(-1,2),3)),4),5))", 20);
        fault(told, FORMULA, "-(min(max(-(min(max((1),2),3)),4),5))", 20);
        fault(told, FORMULA, "-(min(max(-(min(max(1,-2),3)),4),5))", 22);
        fault(told, FORMULA, "-(min(max(-(min(max(1,2),-3)),4),5))", NONE);
        fault(told, FORMULA, "-(min(max(-(min(max(1,2),--3)),4),5))", 26);
        fault(told, FORMULA, times(8, "(") + "-1", 8);
        fault(told, FORMULA, times(7, "(") + "-1" + times(7, ")"), NONE);
        fault(told, FORMULA, times(7, "-") + "(1)", NONE);
        fault(told, FORMULA, times(8, "-") + "(1)", 8);
        fault(told, FORMULA, times(8, "(") + "1-2*3+4" + times(8, ")"), NONE);
    }

    private static void nestingEndsBehindAFactor() {
        String told = "a level ends with its factor:";
        String deep = times(8, "(") + "1" + times(8, ")");
        fault(told, FORMULA, deep + "+" + deep + "*" + deep, NONE);
        fault(told, FORMULA, deep + "*(" + deep + ")", 26);
        fault(told, FORMULA, times(8, "-") + "1*" + times(8, "-") + "1+" + times(8, "-") + "1", NONE);
        fault(told, FORMULA, times(8, "-") + "1-" + times(9, "-") + "1", 18);
        fault(told, FORMULA, "min(" + times(7, "-") + "1," + times(7, "-") + "1)", NONE);
        fault(told, FORMULA, "min(" + times(7, "-") + "1," + times(8, "-") + "1)", 20);
        fault(told, FORMULA, "-1*-(1)+-1", NONE);
    }

    /** Keys at the frames 0, 1, 2 and so on, without the semicolon. */
    private static String keys(int count) {
        StringBuilder text = new StringBuilder();
        for (int i = 0; i < count; i++) {
            text.append(i == 0 ? "" : ",").append(i).append(":").append(i % 10);
        }
        return text.toString();
    }

    private static void atMost24KeysInATextOfACurve() {
        String told = "for a 25th key the comma before it:";
        fault(told, CURVE, keys(23) + ";", NONE);
        fault(told, CURVE, keys(24) + ";", NONE);
        fault(told, CURVE, keys(24) + "H;", NONE);
        fault(told, CURVE, keys(24), keys(24).length());
        fault(told, CURVE, keys(23) + ",", keys(23).length() + 1);
        fault(told, CURVE, keys(24) + ",", keys(24).length());
        fault(told, CURVE, keys(25) + ";", keys(24).length());
        fault(told, CURVE, keys(24) + ",481", keys(24).length());
        fault(told, CURVE, keys(24) + "L,24:1;", keys(24).length() + 1);
    }

    private static void fullTexts() {
        String told = "a text of 120 bytes:";
        String sum = "10" + times(59, "+1");
        fault(told, FORMULA, sum, NONE);
        fault(told, FORMULA, sum.substring(0, 119) + ")", 119);
        fault(told, FORMULA, sum.substring(0, 118) + "1+", 120);
        fault(told, FORMULA, "(" + sum.substring(0, 118) + ")", NONE);
        fault(told, FORMULA, "(" + sum.substring(0, 118) + "1", 120);
        String curve = keys(24).replaceAll("(1[0-9]:[0-9])", "$1T") + ";";
        DUE.is("length of the longest curve here", curve.length(), 120);
        fault(told, CURVE, curve, NONE);
        fault(told, CURVE, curve.substring(0, 119) + ",", 119);
        fault(told, CURVE, curve.substring(0, 119) + "A", 120);
        fault(told, CURVE, curve.substring(0, 119) + "x", 119);
    }

    private static void faultPositionIsNoChange() {
        Run run = run("faultPosition is no change").type("1:2;").first("readCurve(3)");
        run.refuses(NONE, "faultPosition(false)").refuses(1, "faultPosition(true)");
        run.type("a*2").refuses(NONE, "faultPosition(true)").refuses(0, "faultPosition(false)");
    }

    private static void readCurveBounds() {
        Run run = run("readCurve: BAD_VALUE if the text has a fault as a curve");
        run.refuses(BAD_VALUE, "readCurve(0)", "readCurve(3)").refuses(BAD_INDEX, "readCurve(4)", "readCurve(-1)", "readCurve(MAX)");
        run.type("1:1;").allows("readCurve(0)", "readCurve(3)").refuses(BAD_INDEX, "readCurve(4)", "readCurve(-1)", "readCurve(MIN)");
        run.first("setKey(0, 9, 9)", "setExtrapolation(0, 1, 2)").type("1:1,1:2;").refuses(BAD_VALUE, "readCurve(0)");
        run.is("keys(0)", 1).is("frameOf(0, 0)", 9).is("clearText()", 8).refuses(BAD_VALUE, "readCurve(0)");
    }

    private static void readCurveReplacesAllKeys() {
        Run run = run("in place of all that it has. Its extrapolation stays. The text stays.");
        run.first("setKey(2, 1, 5)", "setKey(2, 2, 6)", "setSlopes(2, 1, 9, 9)", "setExtrapolation(2, 4, 3)").type("1:7;");
        run.is("readCurve(2)", 1).is("keys(2)", 1).is("valueOf(2, 0)", 7).is("modeOf(2, 0)", 3).is("slope(2, 0, true)", 0);
        run.is("setExtrapolation(2, 4, 3)", 43).is("faultPosition(false)", NONE).is("readCurve(2)", 1).is("readCurve(0)", 1);
        run.is("clearText()", 4).is("keys(2)", 1).is("undo()", 7).is("undo()", 6).is("undo()", 5).is("undo()", 4).is("keys(2)", 2);
    }

    private static void readCurveOf24Keys() {
        Run run = run("readCurve of 24 keys").type(keys(24) + ";");
        run.is("readCurve(3)", 24).is("frameOf(3, 23)", 23).is("valueOf(3, 23)", 3).refuses(FULL, "setKey(3, 24, 0)");
        run.is("readCurve(3)", 24).type(keys(25) + ";").refuses(BAD_VALUE, "readCurve(3)", "readCurve(0)");
    }

    private static void readFormulaBounds() {
        Run run = run("readFormula: BAD_VALUE if the text has a fault as a formula");
        run.refuses(BAD_VALUE, "readFormula()").type("7").is("readFormula()", 1).is("mix(0)", 448);
        run.type("8+").refuses(BAD_VALUE, "readFormula()").is("mix(0)", 448).type("").refuses(BAD_VALUE, "readFormula()");
        run.is("mix(0)", 448).type("8").is("mix(0)", 448).is("readFormula()", 1).is("mix(0)", 512);
        run.is("faultPosition(true)", NONE).is("readFormula()", 1).is("clearText()", 1).is("mix(0)", 512).is("undo()", 2);
        run.is("mix(0)", 512).is("undo()", 1).is("mix(0)", 448).is("undo()", 0).is("mix(0)", 0);
    }

    private static void readFormulaCounts() {
        String[] texts = {"0", "d", "a@9", "-1", "(1)", "1+1", "a@1*b@2", "min(1,a@2)", "max(min(a,b),c-d@999)", "--(--2)",
            "1" + times(59, "+b"), times(40, "a-") + times(39, "1")};
        int[] due = {1, 1, 1, 1, 1, 2, 2, 2, 4, 1, 60, BAD_VALUE};
        for (int i = 0; i < texts.length; i++) {
            Run run = run("a number behind @ does not count: " + texts[i]).type(texts[i]);
            run.is("readFormula()", due[i]);
        }
    }

    private static void readFormulaInPlaceOfALongerOne() {
        Run run = run("nothing of a longer formula, or of a text with a fault, is left");
        mixIs(run, 0, "1*-2", -128);
        mixIs(run, 0, "-1", -64);
        mixIs(run, 0, "7", 448);
        run.type("--8*-9+").refuses(BAD_VALUE, "readFormula()").is("readFormula()", BAD_VALUE).is("mix(0)", 448);
        run.is("faultPosition(true)", 7).is("mix(0)", 448);
        mixIs(run, 0, "6", 384);
        run.is("undo()", 3).is("mix(0)", 448).is("undo()", 2).is("mix(0)", -64).is("undo()", 1).is("mix(0)", -128);
        run.is("undo()", 0).is("mix(0)", 0);
    }

    private static void mixFrames() {
        Run run = run("mix: frame 0 to 960").type("5").first("readFormula()");
        run.refuses(BAD_VALUE, "mix(-1)", "mix(961)", "mix(MIN)", "mix(MAX)").refuses(320, "mix(0)", "mix(960)");
    }

    /** The curve has 64 parts a frame, before its first key at 1 and behind its last one too. */
    private static void mixEarlierFrames() {
        Run run = run("evaluated n frames earlier (at frame 0 if that is negative)");
        run.first("setKey(0, 1, 1)", "setKey(0, 480, 480)", "setExtrapolation(0, 1, 1)");
        run.type("a@5").first("readFormula()").is("mix(0)", 0).is("mix(4)", 0).is("mix(5)", 0).is("mix(6)", 64);
        run.type("a@0").first("readFormula()").is("mix(0)", 0).is("mix(1)", 64).is("mix(960)", 61440);
        run.type("a").first("readFormula()").is("mix(0)", 0).is("mix(1)", 64).is("mix(960)", 61440);
        run.type("a@959").first("readFormula()").is("mix(958)", 0).is("mix(959)", 0).is("mix(960)", 64);
        run.type("a@960").first("readFormula()").is("mix(960)", 0).type("a@999").first("readFormula()").is("mix(960)", 0);
        for (int c = 0; c < 4; c++) {
            Run other = run("one of the letters a to d (for 0 to 3)");
            other.first("setKey(" + c + ", 0, " + (c + 5) + ")").type("abcd".charAt(c) + "@999").first("readFormula()");
            other.is("mix(0)", 64 * (c + 5)).is("mix(960)", 64 * (c + 5));
        }
    }

    private static void mixWithoutKeys() {
        Run run = run("without keys it has the value 0");
        for (String text : new String[] {"a", "b@0", "c@999", "-d", "a*999", "max(a,-1)", "min(b,1)"}) {
            run.type(text).first("readFormula()").is("mix(0)", 0).is("mix(960)", 0);
        }
        run.first("setKey(1, 0, 7)").is("mix(0)", 64).first("removeKey(1, 0)").is("mix(0)", 0);
        run.first("setKey(1, 5, -7)", "setKey(1, 15, -9)", "setSlopes(1, 5, 99, 99)", "setExtrapolation(1, 1, 4)");
        run.is("mix(5)", -448).first("removeKey(1, 15)", "removeKey(1, 5)").is("mix(0)", 0).is("mix(5)", 0).is("mix(960)", 0);
        run.first("setKey(1, 9, -7)", "clear(1)").is("mix(0)", 0).is("mix(9)", 0).is("mix(960)", 0);
    }

    private static void mixIs(Run run, int frame, String text, int want) {
        run.type(text).first("readFormula()").is("mix(" + frame + ")", want);
    }

    private static void mixOfNumbers() {
        Run run = run("a number stands for so many units (64 parts each)");
        String[] texts = {"0", "1", "00", "09", "099", "999", "-999", "a@999+5"};
        int[] due = {0, 64, 0, 576, 6336, 63936, -63936, 320};
        for (int i = 0; i < texts.length; i++) {
            mixIs(run, 960, texts[i], due[i]);
        }
    }

    private static void mixFromTheLeft() {
        Run run = run("operations of equal rank are carried out from the left");
        mixIs(run, 0, "10-5-3", 128);
        mixIs(run, 0, "10-5+3", 512);
        mixIs(run, 0, "10-2*3-1", 192);
        mixIs(run, 0, "125*125+1-1", 999936);
        mixIs(run, 0, "1-1+125*125", 1000000);
        mixIs(run, 0, "125*125*2*0", 0);
        mixIs(run, 0, "-2*3", -384);
        mixIs(run, 0, "--2-3", -64);
    }

    /** A curve with one and the same number of parts more for each frame behind 1: so many at frame 2. */
    private static Run slanted(String sentence, int slope) {
        Run run = run(sentence);
        run.first("setKey(0, 0, 0)", "setKey(0, 1, 0)", "setSlopes(0, 1, 0, " + slope + ")", "setExtrapolation(0, 0, 1)");
        return run;
    }

    private static void mixLimitsSums() {
        Run run = slanted("a result above 1000000 is replaced by 1000000, and one below -1000000 by -1000000", 1);
        mixIs(run, 2, "125*125", 1000000);
        mixIs(run, 2, "125*125-a", 999999);
        mixIs(run, 2, "125*125-a+a", 1000000);
        mixIs(run, 2, "125*125+a", 1000000);
        mixIs(run, 3, "125*125+a-a", 999998);
        mixIs(run, 2, "-125*125", -1000000);
        mixIs(run, 2, "-125*125+a", -999999);
        mixIs(run, 2, "-125*125+a-a", -1000000);
        mixIs(run, 2, "-125*125-a", -1000000);
        mixIs(run, 3, "-125*125-a+a", -999998);
        mixIs(run, 2, "125*125-(-125*125)", 1000000);
        mixIs(run, 2, "-125*125+(-125*125)", -1000000);
    }

    /** 2849 * 351 = 999999, 2000 * 500 = 1000000, 9901 * 101 = 1000001. */
    private static void mixLimitsProducts() {
        int[] slopes = {2849, 2000, 9901};
        int[] frames = {352, 501, 102};
        int[] due = {999999, 1000000, 1000000};
        for (int i = 0; i < 3; i++) {
            Run run = slanted("after *: a result above 1000000, and one below -1000000", slopes[i]);
            mixIs(run, frames[i], "1*a", due[i]);
            mixIs(run, frames[i], "a*1", due[i]);
            mixIs(run, frames[i], "-1*a", -due[i]);
            mixIs(run, frames[i], "a+0", due[i]);
            mixIs(run, frames[i], "0-a", -due[i]);
        }
        Run greatest = run("the greatest product of two curves");
        greatest.first("setKey(0, 0, -999)", "setKey(0, 1, 999)", "setExtrapolation(0, 0, 1)");
        greatest.first("setKey(1, 0, 999)", "setKey(1, 1, -999)", "setExtrapolation(1, 0, 1)");
        mixIs(greatest, 960, "a*a", 1000000);
        mixIs(greatest, 960, "b*b", 1000000);
        mixIs(greatest, 960, "a*b", -1000000);
    }

    private static void mixLimitsSigns() {
        int[] slopes = {2849, 2000, 9901};
        int[] frames = {352, 501, 102};
        int[] due = {999999, 1000000, 1000000};
        for (int i = 0; i < 3; i++) {
            Run run = slanted("after a - before a factor: a result below -1000000", slopes[i]);
            mixIs(run, frames[i], "-a", -due[i]);
            mixIs(run, frames[i], "--a", due[i]);
            Run below = slanted("after a - before a factor: a result above 1000000", -slopes[i]);
            mixIs(below, frames[i], "-a", due[i]);
            mixIs(below, frames[i], "--a", -due[i]);
        }
    }

    private static void mixOfTheLessAndTheGreater() {
        Run run = run("min and max, of equals too");
        String[] pairs = {"2,3", "3,2", "2,2", "-1,-2", "-2,-1", "0,-0", "1,-1", "-1,1"};
        int[] least = {128, 128, 128, -128, -128, 0, -64, -64};
        int[] greatest = {192, 192, 128, -64, -64, 0, 64, 64};
        for (int i = 0; i < pairs.length; i++) {
            mixIs(run, 0, "min(" + pairs[i] + ")", least[i]);
            mixIs(run, 0, "max(" + pairs[i] + ")", greatest[i]);
        }
    }

    /** A curve, min and max are no operations of those that are named. */
    private static void mixLimitsNothingElse() {
        Run run = slanted("the limits are those of +, -, * and - before a factor", 9901);
        mixIs(run, 102, "a", 1000001);
        mixIs(run, 102, "(a)", 1000001);
        mixIs(run, 103, "a@1", 1000001);
        mixIs(run, 102, "max(a,0)", 1000001);
        mixIs(run, 102, "min(a,a)", 1000001);
        Run below = slanted("the limits of +, -, * and - before a factor", -9901);
        mixIs(below, 102, "a", -1000001);
        mixIs(below, 102, "min(a,0)", -1000001);
        mixIs(below, 102, "max(a,a)", -1000001);
    }

    /** At frame 9 the curve has 8 parts, so that a quarter of a unit and less can be made. */
    private static void mixRoundsProducts() {
        Run run = slanted("a product of two values v and w in parts is round(v * w, 64)", 1);
        mixIs(run, 9, "a*a", 1);
        mixIs(run, 9, "a*a@4", 1);
        mixIs(run, 9, "a*a@5", 0);
        mixIs(run, 9, "-a*a@4", 0);
        mixIs(run, 9, "-a*a@3", -1);
        mixIs(run, 9, "-a*-a@4", 1);
        mixIs(run, 9, "-a*a", -1);
    }
}
