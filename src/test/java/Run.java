import java.lang.reflect.InvocationTargetException;
import java.lang.reflect.Method;
import java.util.ArrayList;
import java.util.List;

/**
 * A run of calls on a new object, for one sentence of the document. A call is written as the document's examples
 * write it: "setKey(0, 10, 5)"; MIN and MAX stand for the least and the greatest int.
 */
final class Run {
    static final int BAD_INDEX = -1000000001;
    static final int BAD_VALUE = -1000000002;
    static final int FULL = -1000000003;
    static final int NOT_POSSIBLE = -1000000004;
    static final int NONE = -1000000005;

    private static final Method[] METHODS = KeyframeCurves.class.getMethods();

    private final Due due;
    private final String sentence;
    private final List<String> made = new ArrayList<>();
    private final KeyframeCurves object = new KeyframeCurves();

    Run(Due due, String sentence) {
        this.due = due;
        this.sentence = sentence;
    }

    /** Calls that only lead to what is tested; none of them may be refused. */
    Run first(String... calls) {
        for (String call : calls) {
            due.holds(sentence + ": " + call + ", which is not to be refused,", !isError(make(call)));
        }
        return this;
    }

    /** A new text in place of the one that is there. */
    Run type(String text) {
        make("clearText()");
        for (int i = 0; i < text.length(); i++) {
            make("append(" + (int) text.charAt(i) + ")");
        }
        return this;
    }

    Run is(String call, long want) {
        due.is(sentence + ": " + call, make(call).longValue(), want);
        return this;
    }

    Run isDouble(String call, double want) {
        due.isDouble(sentence + ": " + call, make(call).doubleValue(), want);
        return this;
    }

    /** Each of the calls has this answer, and leaves all that can be seen of the object as it is. */
    Run refuses(long want, String... calls) {
        List<Long> untouched = whole(again());
        for (String call : calls) {
            KeyframeCurves x = again();
            due.is(sentence + ": " + call, answer(x, call).longValue(), want);
            due.holds(sentence + ": " + call + ", which is to change nothing,", whole(x).equals(untouched));
        }
        return this;
    }

    /** Each of the calls, made after all those before but not after one another, is no error. */
    Run allows(String... calls) {
        for (String call : calls) {
            due.holds(sentence + ": " + call + ", which is not to be refused,", !isError(answer(again(), call)));
        }
        return this;
    }

    long checksum() {
        return make("checksum()").longValue();
    }

    private Number make(String call) {
        made.add(call);
        return answer(object, call);
    }

    private KeyframeCurves again() {
        KeyframeCurves x = new KeyframeCurves();
        for (String call : made) {
            answer(x, call);
        }
        return x;
    }

    private static boolean isError(Number answer) {
        return answer.doubleValue() <= BAD_INDEX && answer.doubleValue() >= NONE;
    }

    /** All that can be seen of an object, by calls that end with an empty history and another text. */
    private static List<Long> whole(KeyframeCurves x) {
        List<Long> seen = new ArrayList<>();
        seen.add(x.checksum());
        seen.add((long) x.faultPosition(true));
        seen.add((long) x.faultPosition(false));
        for (int i = 0; i < 12; i++) {
            seen.add((long) x.undo());
            seen.add(x.checksum());
        }
        seen.add((long) x.readFormula());
        seen.add((long) x.readCurve(0));
        seen.add(x.checksum());
        seen.add((long) x.append('7'));
        seen.add((long) x.faultPosition(true));
        seen.add((long) x.faultPosition(false));
        seen.add((long) x.clearText());
        return seen;
    }

    private Number answer(KeyframeCurves x, String call) {
        String name = call.substring(0, call.indexOf('('));
        String inner = call.substring(name.length() + 1, call.length() - 1);
        String[] told = inner.isEmpty() ? new String[0] : inner.split(", ");
        Object[] arguments = new Object[told.length];
        for (int i = 0; i < told.length; i++) {
            arguments[i] = argument(told[i]);
        }
        try {
            return (Number) named(name).invoke(x, arguments);
        } catch (InvocationTargetException thrown) {
            due.holds(sentence + ": " + call + " without throwing " + thrown.getCause(), false);
            return Long.MIN_VALUE;
        } catch (IllegalAccessException | IllegalArgumentException unusable) {
            throw new IllegalStateException(call, unusable);
        }
    }

    private static Object argument(String told) {
        switch (told) {
            case "true":
                return true;
            case "false":
                return false;
            case "MIN":
                return Integer.MIN_VALUE;
            case "MAX":
                return Integer.MAX_VALUE;
            default:
                return Integer.parseInt(told);
        }
    }

    private static Method named(String name) {
        for (Method method : METHODS) {
            if (method.getName().equals(name)) {
                return method;
            }
        }
        throw new IllegalStateException("no method " + name);
    }
}
