import java.math.BigInteger;
import java.util.ArrayDeque;
import java.util.ArrayList;
import java.util.Deque;
import java.util.List;
import java.util.Map;
import java.util.TreeMap;

/** The document once more, in the slowest and plainest way, to compare the answers of the class with. */
final class Model {
    static final int BAD_INDEX = -1000000001;
    static final int BAD_VALUE = -1000000002;
    static final int FULL = -1000000003;
    static final int NOT_POSSIBLE = -1000000004;
    static final int NONE = -1000000005;

    static final class Key {
        int value;
        int mode;
        int in;
        int out;

        Key(int value, int mode, int in, int out) {
            this.value = value;
            this.mode = mode;
            this.in = in;
            this.out = out;
        }

        Key copy() {
            return new Key(value, mode, in, out);
        }
    }

    static final class Curve {
        final TreeMap<Integer, Key> keys = new TreeMap<>();
        int before;
        int after;

        Curve copy() {
            Curve c = new Curve();
            for (Map.Entry<Integer, Key> e : keys.entrySet()) {
                c.keys.put(e.getKey(), e.getValue().copy());
            }
            c.before = before;
            c.after = after;
            return c;
        }

        List<Integer> frames() {
            return new ArrayList<>(keys.keySet());
        }

        long secant(int a, int b) {
            return round(64L * (keys.get(b).value - keys.get(a).value), b - a);
        }

        long slope(int frame, boolean out) {
            Key k = keys.get(frame);
            if (k.mode == 0) {
                return out ? k.out : k.in;
            }
            if (keys.size() == 1 || k.mode == 1 || k.mode == 6) {
                return 0;
            }
            Integer prev = keys.lowerKey(frame);
            Integer next = keys.higherKey(frame);
            boolean inner = prev != null && next != null;
            if (k.mode == 2) {
                Long left = prev == null ? null : (Long) secant(prev, frame);
                Long right = next == null ? null : (Long) secant(frame, next);
                if (left == null) {
                    return right;
                }
                if (right == null) {
                    return left;
                }
                return out ? right : left;
            }
            long auto;
            if (inner) {
                auto = secant(prev, next);
            } else if (prev == null) {
                auto = secant(frame, next);
            } else {
                auto = secant(prev, frame);
            }
            if (k.mode == 3) {
                return auto;
            }
            if (!inner) {
                return 0;
            }
            if (k.mode == 4) {
                int p = keys.get(prev).value;
                int n = keys.get(next).value;
                boolean between = p < k.value && k.value < n || n < k.value && k.value < p;
                return between ? auto : 0;
            }
            long s1 = secant(prev, frame);
            long s2 = secant(frame, next);
            if (s1 == 0 || s2 == 0 || (s1 < 0) != (s2 < 0)) {
                return 0;
            }
            long bound = Math.min(3 * Math.abs(s1), 3 * Math.abs(s2));
            if (Math.abs(auto) > bound) {
                return auto < 0 ? -bound : bound;
            }
            return auto;
        }

        long value(int f) {
            int a = keys.firstKey();
            int b = keys.lastKey();
            int length = b - a;
            if (f >= a && f <= b) {
                return inside(f);
            }
            boolean early = f < a;
            int kind = keys.size() == 1 ? 0 : early ? before : after;
            if (kind == 0) {
                return 64L * keys.get(early ? a : b).value;
            }
            if (kind == 1) {
                return early ? 64L * keys.get(a).value + slope(a, false) * (f - a)
                        : 64L * keys.get(b).value + slope(b, true) * (f - b);
            }
            if (kind == 3) {
                int m = mod(f - a, 2 * length);
                return m <= length ? inside(a + m) : inside(a + 2 * length - m);
            }
            long cycled = inside(a + mod(f - a, length));
            if (kind == 2) {
                return cycled;
            }
            long k = (long) Math.floor((double) (f - a) / length);
            return cycled + k * 64 * (keys.get(b).value - keys.get(a).value);
        }

        private long inside(int f) {
            if (keys.containsKey(f)) {
                return 64L * keys.get(f).value;
            }
            int a = keys.lowerKey(f);
            int b = keys.higherKey(f);
            BigInteger p = big(64L * keys.get(a).value);
            BigInteger q = big(64L * keys.get(b).value);
            if (keys.get(a).mode == 6) {
                return p.longValueExact();
            }
            BigInteger m = big(slope(a, true));
            BigInteger n = big(slope(b, false));
            BigInteger d = big(b - a);
            BigInteger x = big(f - a);
            BigInteger x2 = x.pow(2);
            BigInteger x3 = x.pow(3);
            BigInteger two = big(2);
            BigInteger three = big(3);
            BigInteger sum = p.multiply(two.multiply(x3).subtract(three.multiply(x2).multiply(d)).add(d.pow(3)));
            sum = sum.add(q.multiply(three.multiply(x2).multiply(d).subtract(two.multiply(x3))));
            sum = sum.add(d.multiply(m).multiply(x3.subtract(two.multiply(x2).multiply(d)).add(x.multiply(d.pow(2)))));
            sum = sum.add(d.multiply(n).multiply(x3.subtract(x2.multiply(d))));
            return round(sum, d.pow(3)).longValueExact();
        }
    }

    static final class State {
        final Curve[] curves = {new Curve(), new Curve(), new Curve(), new Curve()};
        final List<int[]> map = new ArrayList<>();
        String formula = "0";

        State copy() {
            State s = new State();
            for (int i = 0; i < 4; i++) {
                s.curves[i] = curves[i].copy();
            }
            s.map.addAll(map);
            s.formula = formula;
            return s;
        }
    }

    State now = new State();
    final Deque<State> history = new ArrayDeque<>();
    String text = "";

    static BigInteger big(long n) {
        return BigInteger.valueOf(n);
    }

    static long round(long n, long d) {
        return round(big(n), big(d)).longValueExact();
    }

    static BigInteger round(BigInteger n, BigInteger d) {
        BigInteger rest = n.mod(d);
        BigInteger floor = n.subtract(rest).divide(d);
        return rest.shiftLeft(1).compareTo(d) >= 0 ? floor.add(BigInteger.ONE) : floor;
    }

    static int mod(int n, int d) {
        int m = n;
        while (m < 0) {
            m += d;
        }
        while (m >= d) {
            m -= d;
        }
        return m;
    }

    static long clamp(long n, long most) {
        return n > most ? most : n < -most ? -most : n;
    }

    static boolean in(int n, int least, int most) {
        return least <= n && n <= most;
    }

    private Curve curve(int i) {
        return in(i, 0, 3) ? now.curves[i] : null;
    }

    private void change() {
        history.addLast(now.copy());
        if (history.size() > 10) {
            history.removeFirst();
        }
    }

    int setKey(int curve, int frame, int value) {
        Curve c = curve(curve);
        if (c == null) {
            return BAD_INDEX;
        }
        if (!in(frame, 0, 480) || !in(value, -999, 999)) {
            return BAD_VALUE;
        }
        if (!c.keys.containsKey(frame) && c.keys.size() == 24) {
            return FULL;
        }
        change();
        if (c.keys.containsKey(frame)) {
            c.keys.get(frame).value = value;
        } else {
            c.keys.put(frame, new Key(value, 3, 0, 0));
        }
        return c.keys.size();
    }

    int removeKey(int curve, int frame) {
        Curve c = curve(curve);
        if (c == null || !c.keys.containsKey(frame)) {
            return BAD_INDEX;
        }
        change();
        c.keys.remove(frame);
        return c.keys.size();
    }

    int moveKey(int curve, int frame, int to) {
        Curve c = curve(curve);
        if (c == null || !c.keys.containsKey(frame)) {
            return BAD_INDEX;
        }
        if (!in(to, 0, 480)) {
            return BAD_VALUE;
        }
        if (to != frame && c.keys.containsKey(to)) {
            return NOT_POSSIBLE;
        }
        change();
        Key k = c.keys.remove(frame);
        c.keys.put(to, k);
        return c.keys.headMap(to).size();
    }

    private static void free(Curve c, int frame) {
        Key k = c.keys.get(frame);
        if (k.mode != 0) {
            int in = (int) clamp(c.slope(frame, false), 9999);
            int out = (int) clamp(c.slope(frame, true), 9999);
            k.mode = 0;
            k.in = in;
            k.out = out;
        }
    }

    int setMode(int curve, int frame, int mode) {
        Curve c = curve(curve);
        if (c == null || !c.keys.containsKey(frame)) {
            return BAD_INDEX;
        }
        if (!in(mode, 0, 6)) {
            return BAD_VALUE;
        }
        change();
        int previous = c.keys.get(frame).mode;
        if (mode == 0) {
            free(c, frame);
        }
        c.keys.get(frame).mode = mode;
        return previous;
    }

    int setSlopes(int curve, int frame, int in, int out) {
        Curve c = curve(curve);
        if (c == null || !c.keys.containsKey(frame)) {
            return BAD_INDEX;
        }
        if (!in(in, -9999, 9999) || !in(out, -9999, 9999)) {
            return BAD_VALUE;
        }
        change();
        Key k = c.keys.get(frame);
        int previous = k.mode;
        c.keys.put(frame, new Key(k.value, 0, in, out));
        return previous;
    }

    int split(int curve, int frame) {
        Curve c = curve(curve);
        if (c == null) {
            return BAD_INDEX;
        }
        Integer prev = c.keys.lowerKey(frame);
        Integer next = c.keys.higherKey(frame);
        if (prev == null || next == null || c.keys.containsKey(frame)) {
            return BAD_VALUE;
        }
        if (c.keys.size() == 24) {
            return FULL;
        }
        change();
        Curve old = c.copy();
        for (int k : new int[] {prev, next}) {
            if (c.keys.get(k).mode != 6) {
                free(c, k);
            }
        }
        if (old.keys.get(prev).mode == 6) {
            c.keys.put(frame, new Key(old.keys.get(prev).value, 6, 0, 0));
        } else {
            int value = (int) clamp(round(old.value(frame), 64), 999);
            int slope = (int) clamp(round(old.value(frame + 1) - old.value(frame - 1), 2), 9999);
            c.keys.put(frame, new Key(value, 0, slope, slope));
        }
        return c.keys.headMap(frame).size();
    }

    int clear(int curve) {
        Curve c = curve(curve);
        if (c == null) {
            return BAD_INDEX;
        }
        change();
        now.curves[curve] = new Curve();
        return c.keys.size();
    }

    int setExtrapolation(int curve, int before, int after) {
        Curve c = curve(curve);
        if (c == null) {
            return BAD_INDEX;
        }
        if (!in(before, 0, 4) || !in(after, 0, 4)) {
            return BAD_VALUE;
        }
        change();
        int previous = 10 * c.before + c.after;
        c.before = before;
        c.after = after;
        return previous;
    }

    int keys(int curve) {
        Curve c = curve(curve);
        return c == null ? BAD_INDEX : c.keys.size();
    }

    int frameOf(int curve, int key) {
        Curve c = curve(curve);
        if (c == null || !in(key, 0, c.keys.size() - 1)) {
            return BAD_INDEX;
        }
        return c.frames().get(key);
    }

    int valueOf(int curve, int key) {
        int frame = frameOf(curve, key);
        return frame < 0 ? frame : now.curves[curve].keys.get(frame).value;
    }

    int modeOf(int curve, int key) {
        int frame = frameOf(curve, key);
        return frame < 0 ? frame : now.curves[curve].keys.get(frame).mode;
    }

    int slope(int curve, int key, boolean out) {
        int frame = frameOf(curve, key);
        return frame < 0 ? frame : (int) now.curves[curve].slope(frame, out);
    }

    int value(int curve, int frame) {
        Curve c = curve(curve);
        if (c == null) {
            return BAD_INDEX;
        }
        if (!in(frame, 0, 960)) {
            return BAD_VALUE;
        }
        return c.keys.isEmpty() ? NONE : Math.toIntExact(c.value(frame));
    }

    float units(int curve, int frame) {
        int parts = value(curve, frame);
        return parts == BAD_INDEX || parts == BAD_VALUE || parts == NONE ? 0.0f : (float) parts / 64.0f;
    }

    double mean(int curve, int from, int to) {
        Curve c = curve(curve);
        if (c == null || !in(from, 0, 960) || !in(to, from, 960) || c.keys.isEmpty()) {
            return 0.0;
        }
        long sum = 0;
        for (int f = from; f <= to; f++) {
            sum += c.value(f);
        }
        return (double) sum / (64.0 * (to - from + 1));
    }

    int extreme(int curve, int from, int to, boolean greatest) {
        Curve c = curve(curve);
        if (c == null) {
            return BAD_INDEX;
        }
        if (!in(from, 0, 960) || !in(to, from, 960)) {
            return BAD_VALUE;
        }
        if (c.keys.isEmpty()) {
            return NONE;
        }
        long most = c.value(from);
        for (int f = from; f <= to; f++) {
            most = greatest ? Math.max(most, c.value(f)) : Math.min(most, c.value(f));
        }
        int f = from;
        while (c.value(f) != most) {
            f++;
        }
        return f;
    }

    int crossings(int curve, int from, int to, int level) {
        Curve c = curve(curve);
        if (c == null) {
            return BAD_INDEX;
        }
        if (!in(from, 0, 960) || !in(to, from, 960) || !in(level, -999, 999)) {
            return BAD_VALUE;
        }
        if (c.keys.isEmpty()) {
            return NONE;
        }
        int n = 0;
        for (int f = from; f < to; f++) {
            boolean rises = c.value(f) < 64L * level && c.value(f + 1) >= 64L * level;
            boolean falls = c.value(f) >= 64L * level && c.value(f + 1) < 64L * level;
            n += rises || falls ? 1 : 0;
        }
        return n;
    }

    int addPoint(int source, int target) {
        if (!in(source, 0, 480) || !in(target, 0, 480)) {
            return BAD_VALUE;
        }
        int n = now.map.size();
        if (n > 0 && (source <= now.map.get(n - 1)[0] || target <= now.map.get(n - 1)[1])) {
            return BAD_VALUE;
        }
        if (n == 8) {
            return FULL;
        }
        change();
        now.map.add(new int[] {source, target});
        return n + 1;
    }

    int clearMap() {
        change();
        int n = now.map.size();
        now.map.clear();
        return n;
    }

    private int send(int t) {
        List<int[]> map = now.map;
        if (map.isEmpty()) {
            return t;
        }
        int[] first = map.get(0);
        int[] last = map.get(map.size() - 1);
        if (t <= first[0]) {
            return t + first[1] - first[0];
        }
        if (t >= last[0]) {
            return t + last[1] - last[0];
        }
        for (int i = 0; ; i++) {
            int[] p = map.get(i);
            int[] q = map.get(i + 1);
            if (p[0] <= t && t <= q[0]) {
                return p[1] + (int) round((long) (t - p[0]) * (q[1] - p[1]), q[0] - p[0]);
            }
        }
    }

    int mapped(int frame) {
        return in(frame, 0, 480) ? send(frame) : BAD_VALUE;
    }

    private int stretched(int slope, int frame, boolean out) {
        for (int i = 0; i + 1 < now.map.size(); i++) {
            int[] p = now.map.get(i);
            int[] q = now.map.get(i + 1);
            boolean here = out ? p[0] <= frame && frame < q[0] : p[0] < frame && frame <= q[0];
            if (here) {
                return (int) clamp(round((long) slope * (q[0] - p[0]), q[1] - p[1]), 9999);
            }
        }
        return slope;
    }

    int retime(int curve) {
        Curve c = curve(curve);
        if (c == null) {
            return BAD_INDEX;
        }
        TreeMap<Integer, Key> sent = new TreeMap<>();
        int changed = 0;
        for (int f : c.frames()) {
            int t = send(f);
            if (!in(t, 0, 480) || sent.containsKey(t)) {
                return NOT_POSSIBLE;
            }
            Key k = c.keys.get(f).copy();
            if (k.mode == 0) {
                k.in = stretched(k.in, f, false);
                k.out = stretched(k.out, f, true);
            }
            sent.put(t, k);
            changed += t == f ? 0 : 1;
        }
        change();
        c.keys.clear();
        c.keys.putAll(sent);
        return changed;
    }

    int bake(int curve, int from, int to, int step) {
        return baked(curve, from, to, step, false);
    }

    int bakeFormula(int curve, int from, int to, int step) {
        return baked(curve, from, to, step, true);
    }

    private int baked(int curve, int from, int to, int step, boolean formula) {
        Curve c = curve(curve);
        if (c == null) {
            return BAD_INDEX;
        }
        if (!in(from, 0, 480) || !in(to, from, 480) || !in(step, 1, 480)) {
            return BAD_VALUE;
        }
        if (!formula && c.keys.isEmpty()) {
            return NOT_POSSIBLE;
        }
        TreeMap<Integer, Key> keys = new TreeMap<>(c.keys);
        keys.subMap(from, true, to, true).clear();
        for (int f = from; f <= to; f += step) {
            long parts = formula ? mixed(f) : c.value(f);
            keys.put(f, new Key((int) clamp(round(parts, 64), 999), 2, 0, 0));
        }
        if (keys.size() > 24) {
            return FULL;
        }
        change();
        c.keys.clear();
        c.keys.putAll(keys);
        return keys.size();
    }

    int polyline(int curve, int from, int to, int tolerance, int index) {
        Curve c = curve(curve);
        if (c == null) {
            return BAD_INDEX;
        }
        if (!in(from, 0, 960) || to <= from || (long) to > from + 40L || to > 960) {
            return BAD_VALUE;
        }
        if (!in(tolerance, 0, 9999) || index < -1) {
            return BAD_VALUE;
        }
        if (c.keys.isEmpty()) {
            return NOT_POSSIBLE;
        }
        List<Integer> line = line(c, from, to, tolerance);
        if (index == -1) {
            return line.size();
        }
        return index < line.size() ? line.get(index) : NONE;
    }

    /** From the first frame on: the best lines that end at each frame, compared as wholes. */
    static List<Integer> line(Curve c, int from, int to, int tolerance) {
        TreeMap<Integer, List<Integer>> lines = new TreeMap<>();
        TreeMap<Integer, Long> sums = new TreeMap<>();
        lines.put(from, new ArrayList<>(List.of(from)));
        sums.put(from, 0L);
        for (int b = from + 1; b <= to; b++) {
            List<Integer> best = null;
            long bestSum = 0;
            for (int a = from; a < b; a++) {
                long misfit = misfit(c, a, b, tolerance);
                if (misfit < 0) {
                    continue;
                }
                List<Integer> line = new ArrayList<>(lines.get(a));
                line.add(b);
                long sum = sums.get(a) + misfit;
                if (best == null || comesFirst(line, sum, best, bestSum)) {
                    best = line;
                    bestSum = sum;
                }
            }
            lines.put(b, best);
            sums.put(b, bestSum);
        }
        return lines.get(to);
    }

    static long misfit(Curve c, int a, int b, int tolerance) {
        long sum = 0;
        for (int f = a; f < b; f++) {
            long line = c.value(a) + round((c.value(b) - c.value(a)) * (f - a), b - a);
            long difference = Math.abs(line - c.value(f));
            if (difference > tolerance) {
                return -1;
            }
            sum += difference;
        }
        return sum;
    }

    static boolean comesFirst(List<Integer> line, long sum, List<Integer> other, long otherSum) {
        if (line.size() != other.size()) {
            return line.size() < other.size();
        }
        if (sum != otherSum) {
            return sum < otherSum;
        }
        for (int i = 0; i < line.size(); i++) {
            if (!line.get(i).equals(other.get(i))) {
                return line.get(i) < other.get(i);
            }
        }
        return false;
    }

    int decimate(int curve, int tolerance) {
        Curve c = curve(curve);
        if (c == null) {
            return BAD_INDEX;
        }
        if (!in(tolerance, 0, 9999)) {
            return BAD_VALUE;
        }
        change();
        Curve old = c.copy();
        int removed = 0;
        while (c.keys.size() > 2) {
            List<Integer> frames = c.frames();
            int cheapest = -1;
            long least = Long.MAX_VALUE;
            for (int i = 1; i < frames.size() - 1; i++) {
                Curve without = c.copy();
                without.keys.remove(frames.get(i));
                long error = 0;
                for (int f = frames.get(0); f <= frames.get(frames.size() - 1); f++) {
                    error = Math.max(error, Math.abs(old.value(f) - without.value(f)));
                }
                if (error < least) {
                    least = error;
                    cheapest = frames.get(i);
                }
            }
            if (least > tolerance) {
                break;
            }
            c.keys.remove(cheapest);
            removed++;
        }
        return removed;
    }

    int append(int letter) {
        if (!in(letter, 0, 127)) {
            return BAD_VALUE;
        }
        if (text.length() == 120) {
            return FULL;
        }
        text += (char) letter;
        return text.length();
    }

    int clearText() {
        int n = text.length();
        text = "";
        return n;
    }

    int faultPosition(boolean formula) {
        return formula ? formulaFault(text) : curveFault(text);
    }

    private static boolean digit(String t, int i) {
        return i < t.length() && t.charAt(i) >= '0' && t.charAt(i) <= '9';
    }

    private static boolean sign(String t, int i, char c) {
        return i < t.length() && t.charAt(i) == c;
    }

    private static int endOfDigits(String t, int i) {
        int end = i;
        while (digit(t, end)) {
            end++;
        }
        return end;
    }

    /** Letter by letter, with what is open on a stack: ( for parentheses, 1 and 2 for the halves of min and max, - for signs. */
    static int formulaFault(String t) {
        StringBuilder open = new StringBuilder();
        boolean wantsFactor = true;
        int i = 0;
        while (true) {
            if (wantsFactor) {
                if (i == t.length()) {
                    return i;
                }
                char c = t.charAt(i);
                if (digit(t, i)) {
                    int end = endOfDigits(t, i);
                    if (end - i > 3) {
                        return i;
                    }
                    i = end;
                    wantsFactor = false;
                } else if (c >= 'a' && c <= 'd') {
                    i++;
                    if (sign(t, i, '@')) {
                        i++;
                        int end = endOfDigits(t, i);
                        if (end == i || end - i > 3) {
                            return i;
                        }
                        i = end;
                    }
                    wantsFactor = false;
                } else if (c == '-' || c == '(') {
                    if (open.length() == 8) {
                        return i;
                    }
                    open.append(c);
                    i++;
                } else if (c == 'm') {
                    String name = sign(t, i + 1, 'a') ? "max(" : "min(";
                    for (int k = 0; k < 4; k++) {
                        if (!sign(t, i + k, name.charAt(k))) {
                            return i + k;
                        }
                    }
                    if (open.length() == 8) {
                        return i + 3;
                    }
                    open.append('1');
                    i += 4;
                } else {
                    return i;
                }
            } else {
                while (open.length() > 0 && open.charAt(open.length() - 1) == '-') {
                    open.setLength(open.length() - 1);
                }
                char top = open.length() == 0 ? ' ' : open.charAt(open.length() - 1);
                if (i == t.length()) {
                    return top == ' ' ? NONE : i;
                }
                char c = t.charAt(i);
                if (c == '+' || c == '-' || c == '*') {
                    wantsFactor = true;
                } else if (c == ')' && (top == '(' || top == '2')) {
                    open.setLength(open.length() - 1);
                } else if (c == ',' && top == '1') {
                    open.setCharAt(open.length() - 1, '2');
                    wantsFactor = true;
                } else {
                    return i;
                }
                i++;
            }
        }
    }

    static int curveFault(String t) {
        int i = 0;
        int last = -1;
        for (int keys = 1; ; keys++) {
            int end = endOfDigits(t, i);
            if (end == i || end - i > 3) {
                return i;
            }
            int frame = Integer.parseInt(t.substring(i, end));
            if (frame > 480 || frame <= last) {
                return i;
            }
            last = frame;
            i = end;
            if (!sign(t, i, ':')) {
                return i;
            }
            i++;
            if (sign(t, i, '-')) {
                i++;
            }
            end = endOfDigits(t, i);
            if (end == i || end - i > 3) {
                return i;
            }
            i = end;
            if (i < t.length() && "TLACMH".indexOf(t.charAt(i)) >= 0) {
                i++;
            }
            if (sign(t, i, ';')) {
                return i + 1 == t.length() ? NONE : i + 1;
            }
            if (!sign(t, i, ',') || keys == 24) {
                return i;
            }
            i++;
        }
    }

    int readCurve(int curve) {
        Curve c = curve(curve);
        if (c == null) {
            return BAD_INDEX;
        }
        if (curveFault(text) != NONE) {
            return BAD_VALUE;
        }
        change();
        c.keys.clear();
        for (String key : text.substring(0, text.length() - 1).split(",")) {
            int mode = "-TLACMH".indexOf(key.charAt(key.length() - 1));
            String[] parts = key.replaceAll("[A-Z]", "").split(":");
            c.keys.put(Integer.parseInt(parts[0]), new Key(Integer.parseInt(parts[1]), mode < 0 ? 3 : mode, 0, 0));
        }
        return c.keys.size();
    }

    int readFormula() {
        if (formulaFault(text) != NONE) {
            return BAD_VALUE;
        }
        change();
        now.formula = text;
        return text.replaceAll("@[0-9]+", "").replaceAll("min|max", "").replaceAll("[0-9]+|[a-d]", "n")
                .replaceAll("[^n]", "").length();
    }

    int mix(int frame) {
        return in(frame, 0, 960) ? (int) mixed(frame) : BAD_VALUE;
    }

    private int place;

    private long mixed(int frame) {
        place = 0;
        return mixedSum(frame);
    }

    private boolean eat(char c) {
        if (sign(now.formula, place, c)) {
            place++;
            return true;
        }
        return false;
    }

    private long mixedSum(int frame) {
        long v = mixedProduct(frame);
        while (true) {
            if (eat('+')) {
                v = clamp(v + mixedProduct(frame), 1000000);
            } else if (eat('-')) {
                v = clamp(v - mixedProduct(frame), 1000000);
            } else {
                return v;
            }
        }
    }

    private long mixedProduct(int frame) {
        long v = mixedFactor(frame);
        while (eat('*')) {
            v = clamp(round(v * mixedFactor(frame), 64), 1000000);
        }
        return v;
    }

    private int mixedNumber() {
        int end = endOfDigits(now.formula, place);
        int n = Integer.parseInt(now.formula.substring(place, end));
        place = end;
        return n;
    }

    private long mixedFactor(int frame) {
        if (digit(now.formula, place)) {
            return 64L * mixedNumber();
        }
        if (eat('-')) {
            return clamp(-mixedFactor(frame), 1000000);
        }
        if (eat('(')) {
            long v = mixedSum(frame);
            eat(')');
            return v;
        }
        if (eat('m')) {
            boolean least = eat('i');
            place += least ? 2 : 3;
            long v = mixedSum(frame);
            eat(',');
            long w = mixedSum(frame);
            eat(')');
            return least ? Math.min(v, w) : Math.max(v, w);
        }
        Curve c = now.curves[now.formula.charAt(place) - 'a'];
        place++;
        int f = eat('@') ? Math.max(0, frame - mixedNumber()) : frame;
        return c.keys.isEmpty() ? 0 : c.value(f);
    }

    int undo() {
        if (history.isEmpty()) {
            return NONE;
        }
        now = history.removeLast();
        return history.size();
    }

    long checksum() {
        List<Long> values = new ArrayList<>();
        for (int i = 0; i < 4; i++) {
            values.add((long) keys(i));
            for (int k = 0; k < keys(i); k++) {
                values.add((long) frameOf(i, k));
                values.add((long) valueOf(i, k));
                values.add((long) modeOf(i, k));
                values.add((long) slope(i, k, false));
                values.add((long) slope(i, k, true));
            }
            values.add(10L * now.curves[i].before + now.curves[i].after);
            for (int f = 0; f <= 960 && keys(i) > 0; f += 60) {
                values.add((long) value(i, f));
            }
        }
        values.add((long) now.map.size());
        for (int[] p : now.map) {
            values.add((long) p[0]);
            values.add((long) p[1]);
        }
        for (int f = 0; f <= 960; f += 60) {
            values.add((long) mix(f));
        }
        long h = 23;
        for (long v : values) {
            h = 31 * h + v;
        }
        return h;
    }
}
