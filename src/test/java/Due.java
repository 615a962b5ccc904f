/** Counts the answers that are not the ones that are due, and prints them. */
final class Due {
    private int asked = 0;
    private int wrong = 0;
    private final String test;

    Due(String test) {
        this.test = test;
    }

    void is(String call, long got, long want) {
        asked++;
        if (got != want) {
            report(call + " answered " + got + ", due is " + want);
        }
    }

    void isDouble(String call, double got, double want) {
        asked++;
        // Bits are compared, so that NaN and the zero with a sign are seen too.
        if (Double.doubleToRawLongBits(got) != Double.doubleToRawLongBits(want)) {
            report(call + " answered " + got + ", due is " + want);
        }
    }

    void holds(String what, boolean isSo) {
        asked++;
        if (!isSo) {
            report(what + " does not hold");
        }
    }

    private void report(String line) {
        wrong++;
        if (wrong <= 50) {
            System.out.println(test + ": " + line);
        }
    }

    int wrong() {
        return wrong;
    }

    /** Ends the program: with 1, if an answer was wrong or if nothing was asked. */
    void finish() {
        System.out.println(test + ": " + (asked - wrong) + " of " + asked + " as due");
        System.exit(wrong == 0 && asked > 0 ? 0 : 1);
    }
}
