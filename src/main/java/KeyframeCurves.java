/** An editor for animation curves; the document's numbered promises say what each call answers. */
public final class KeyframeCurves {
    public static final int BAD_INDEX = -1000000001;
    public static final int BAD_VALUE = -1000000002;
    public static final int FULL = -1000000003;
    public static final int NOT_POSSIBLE = -1000000004;
    public static final int NONE = -1000000005;
    public static final int FREE = 0, FLAT = 1, LINEAR = 2, AUTO = 3, CLAMPED = 4, MONOTONE = 5, HOLD = 6;
    public static final int CONSTANT = 0, SLOPE = 1, CYCLE = 2, BOUNCE = 3, OFFSET = 4;

    private static final int CURVES = 4;
    private static final int MOST_KEYS = 24;
    private static final int LAST_KEY_FRAME = 480;
    private static final int LAST_FRAME = 960;
    private static final int MOST_VALUE = 999;
    private static final int MOST_SLOPE = 9999;
    private static final int MOST_TOLERANCE = 9999;
    private static final int PARTS = 64;
    private static final int MOST_POINTS = 8;
    private static final int MOST_STATES = 10;
    private static final int MOST_LETTERS = 120;
    private static final int MOST_DIGITS = 3;
    private static final int MOST_NESTING = 8;
    private static final int MOST_MIX = 1000000;
    private static final int MOST_REACH = 40;
    private static final int CHECKSUM_STEP = 60;

    // Kinds of a formula's steps.
    private static final int NUMBER = 0;
    private static final int CURVE = 1;
    private static final int PLUS = 2;
    private static final int MINUS = 3;
    private static final int TIMES = 4;
    private static final int LEAST = 5;
    private static final int GREATEST = 6;
    private static final int NEGATE = 7;
    /** A step CURVE tells two things in one number: the curve times this, and the frames that it looks back. */
    private static final int LOOK_BACK = 1000;

    // Everything is made here and used again, so that no call makes an object.
    private final State now = new State();
    private final History history = new History();
    private final Text text = new Text();
    private final FormulaReader formulaReader = new FormulaReader();
    private final CurveReader curveReader = new CurveReader();
    private final Mixer mixer = new Mixer();
    private final Polyline shortest = new Polyline();
    private final Decimator decimator = new Decimator();
    /** What a call works out for each key before it changes a curve, as all of it belongs to the old one. */
    private final int[] planned = new int[MOST_KEYS];

    public KeyframeCurves() {
    }

    public int setKey(int curve, int frame, int value) {
        Curve edited = now.curveAt(curve);
        if (edited == null) {
            return BAD_INDEX;
        }
        if (!within(frame, 0, LAST_KEY_FRAME) || !within(value, -MOST_VALUE, MOST_VALUE)) {
            return BAD_VALUE;
        }
        int key = edited.find(frame);
        if (key < 0 && edited.count >= MOST_KEYS) {
            return FULL;
        }
        history.record(now);
        if (key < 0) {
            edited.insert(frame, value, AUTO, 0, 0);
        } else {
            put(edited.heights, key, value);
        }
        return edited.count;
    }

    public int removeKey(int curve, int frame) {
        Curve edited = now.curveAt(curve);
        int key = edited == null ? -1 : edited.find(frame);
        if (edited == null || key < 0) {
            return BAD_INDEX;
        }
        history.record(now);
        edited.drop(key);
        return edited.count;
    }

    public int moveKey(int curve, int frame, int to) {
        Curve edited = now.curveAt(curve);
        int key = edited == null ? -1 : edited.find(frame);
        if (edited == null || key < 0) {
            return BAD_INDEX;
        }
        if (!within(to, 0, LAST_KEY_FRAME)) {
            return BAD_VALUE;
        }
        if (to != frame && edited.find(to) >= 0) {
            return NOT_POSSIBLE;
        }
        history.record(now);
        return edited.move(key, to);
    }

    public int setMode(int curve, int frame, int mode) {
        Curve edited = now.curveAt(curve);
        int key = edited == null ? -1 : edited.find(frame);
        if (edited == null || key < 0) {
            return BAD_INDEX;
        }
        if (!within(mode, FREE, HOLD)) {
            return BAD_VALUE;
        }
        int previous = at(edited.modes, key);
        history.record(now);
        edited.changeMode(key, mode);
        return previous;
    }

    public int setSlopes(int curve, int frame, int in, int out) {
        Curve edited = now.curveAt(curve);
        int key = edited == null ? -1 : edited.find(frame);
        if (edited == null || key < 0) {
            return BAD_INDEX;
        }
        if (!within(in, -MOST_SLOPE, MOST_SLOPE) || !within(out, -MOST_SLOPE, MOST_SLOPE)) {
            return BAD_VALUE;
        }
        int previous = at(edited.modes, key);
        history.record(now);
        put(edited.modes, key, FREE);
        put(edited.ins, key, in);
        put(edited.outs, key, out);
        return previous;
    }

    public int split(int curve, int frame) {
        Curve edited = now.curveAt(curve);
        if (edited == null) {
            return BAD_INDEX;
        }
        int behind = edited.keysBefore(frame);
        if (behind < 1 || behind >= edited.count || edited.find(frame) >= 0) {
            return BAD_VALUE;
        }
        if (edited.count >= MOST_KEYS) {
            return FULL;
        }
        history.record(now);
        return edited.divide(frame, behind);
    }

    public int clear(int curve) {
        Curve edited = now.curveAt(curve);
        if (edited == null) {
            return BAD_INDEX;
        }
        history.record(now);
        int had = edited.count;
        edited.count = 0;
        edited.before = CONSTANT;
        edited.after = CONSTANT;
        return had;
    }

    public int setExtrapolation(int curve, int before, int after) {
        Curve edited = now.curveAt(curve);
        if (edited == null) {
            return BAD_INDEX;
        }
        if (!within(before, CONSTANT, OFFSET) || !within(after, CONSTANT, OFFSET)) {
            return BAD_VALUE;
        }
        int previous = edited.bothExtrapolations();
        history.record(now);
        edited.before = before;
        edited.after = after;
        return previous;
    }

    public int keys(int curve) {
        Curve asked = now.curveAt(curve);
        return asked == null ? BAD_INDEX : asked.count;
    }

    public int frameOf(int curve, int key) {
        Curve asked = now.curveAt(curve);
        return asked == null || !asked.has(key) ? BAD_INDEX : at(asked.frames, key);
    }

    public int valueOf(int curve, int key) {
        Curve asked = now.curveAt(curve);
        return asked == null || !asked.has(key) ? BAD_INDEX : at(asked.heights, key);
    }

    public int modeOf(int curve, int key) {
        Curve asked = now.curveAt(curve);
        return asked == null || !asked.has(key) ? BAD_INDEX : at(asked.modes, key);
    }

    public int slope(int curve, int key, boolean out) {
        Curve asked = now.curveAt(curve);
        return asked == null || !asked.has(key) ? BAD_INDEX : asked.tangent(key, out);
    }

    public int value(int curve, int frame) {
        Curve asked = now.curveAt(curve);
        if (asked == null) {
            return BAD_INDEX;
        }
        if (!within(frame, 0, LAST_FRAME)) {
            return BAD_VALUE;
        }
        return asked.count == 0 ? NONE : asked.partsAt(frame);
    }

    public float units(int curve, int frame) {
        Curve asked = now.curveAt(curve);
        if (asked == null || !within(frame, 0, LAST_FRAME) || asked.count == 0) {
            return 0;
        }
        return (float) asked.partsAt(frame) / 64.0f;
    }

    public double mean(int curve, int from, int to) {
        Curve asked = now.curveAt(curve);
        if (asked == null || !isRange(from, to, LAST_FRAME) || asked.count == 0) {
            return 0;
        }
        long sum = 0;
        for (int frame = from; frame <= to; frame++) {
            sum += asked.partsAt(frame);
        }
        return (double) sum / (64.0 * (to - from + 1));
    }

    public int extreme(int curve, int from, int to, boolean greatest) {
        Curve asked = now.curveAt(curve);
        if (asked == null) {
            return BAD_INDEX;
        }
        if (!isRange(from, to, LAST_FRAME)) {
            return BAD_VALUE;
        }
        if (asked.count == 0) {
            return NONE;
        }
        int found = from;
        int most = asked.partsAt(from);
        for (int frame = from + 1; frame <= to; frame++) {
            int parts = asked.partsAt(frame);
            if (greatest ? parts > most : parts < most) {
                found = frame;
                most = parts;
            }
        }
        return found;
    }

    public int crossings(int curve, int from, int to, int level) {
        Curve asked = now.curveAt(curve);
        if (asked == null) {
            return BAD_INDEX;
        }
        if (!isRange(from, to, LAST_FRAME) || !within(level, -MOST_VALUE, MOST_VALUE)) {
            return BAD_VALUE;
        }
        if (asked.count == 0) {
            return NONE;
        }
        int crossed = 0;
        boolean below = asked.partsAt(from) < PARTS * level;
        for (int frame = from + 1; frame <= to; frame++) {
            boolean next = asked.partsAt(frame) < PARTS * level;
            if (next != below) {
                crossed++;
            }
            below = next;
        }
        return crossed;
    }

    public int addPoint(int source, int target) {
        TimeMap map = now.map;
        if (!within(source, 0, LAST_KEY_FRAME) || !within(target, 0, LAST_KEY_FRAME) || !map.canFollow(source, target)) {
            return BAD_VALUE;
        }
        if (map.count >= MOST_POINTS) {
            return FULL;
        }
        history.record(now);
        map.add(source, target);
        return map.count;
    }

    public int clearMap() {
        history.record(now);
        int had = now.map.count;
        now.map.count = 0;
        return had;
    }

    public int mapped(int frame) {
        return within(frame, 0, LAST_KEY_FRAME) ? now.map.send(frame) : BAD_VALUE;
    }

    public int retime(int curve) {
        Curve edited = now.curveAt(curve);
        if (edited == null) {
            return BAD_INDEX;
        }
        int changed = 0;
        int last = -1;
        for (int key = 0; key < edited.count; key++) {
            int old = at(edited.frames, key);
            int sent = now.map.send(old);
            // The map keeps the order of the keys, so that equal frames are neighbors.
            if (!within(sent, 0, LAST_KEY_FRAME) || sent <= last) {
                return NOT_POSSIBLE;
            }
            put(planned, key, sent);
            changed += sent == old ? 0 : 1;
            last = sent;
        }
        history.record(now);
        edited.retimeKeys(now.map, planned);
        return changed;
    }

    public int bake(int curve, int from, int to, int step) {
        Curve edited = now.curveAt(curve);
        if (edited == null) {
            return BAD_INDEX;
        }
        if (!isRange(from, to, LAST_KEY_FRAME) || !within(step, 1, LAST_KEY_FRAME)) {
            return BAD_VALUE;
        }
        if (edited.count == 0) {
            return NOT_POSSIBLE;
        }
        int fresh = stepsIn(from, to, step);
        if (edited.keysOutside(from, to) + fresh > MOST_KEYS) {
            return FULL;
        }
        for (int i = 0; i < fresh; i++) {
            put(planned, i, nearestValue(edited.partsAt(from + i * step)));
        }
        history.record(now);
        edited.replaceRange(from, to, step, planned);
        return edited.count;
    }

    public int bakeFormula(int curve, int from, int to, int step) {
        Curve edited = now.curveAt(curve);
        if (edited == null) {
            return BAD_INDEX;
        }
        if (!isRange(from, to, LAST_KEY_FRAME) || !within(step, 1, LAST_KEY_FRAME)) {
            return BAD_VALUE;
        }
        int fresh = stepsIn(from, to, step);
        if (edited.keysOutside(from, to) + fresh > MOST_KEYS) {
            return FULL;
        }
        for (int i = 0; i < fresh; i++) {
            put(planned, i, nearestValue(mixer.run(now, from + i * step)));
        }
        history.record(now);
        edited.replaceRange(from, to, step, planned);
        return edited.count;
    }

    public int polyline(int curve, int from, int to, int tolerance, int index) {
        Curve asked = now.curveAt(curve);
        if (asked == null) {
            return BAD_INDEX;
        }
        if (!within(from, 0, LAST_FRAME) || !within(to, from + 1, Math.min(from + MOST_REACH, LAST_FRAME))) {
            return BAD_VALUE;
        }
        if (!within(tolerance, 0, MOST_TOLERANCE) || index < -1) {
            return BAD_VALUE;
        }
        if (asked.count == 0) {
            return NOT_POSSIBLE;
        }
        shortest.solve(asked, from, to, tolerance);
        return index == -1 ? shortest.size() : shortest.frameAt(from, index);
    }

    public int decimate(int curve, int tolerance) {
        Curve edited = now.curveAt(curve);
        if (edited == null) {
            return BAD_INDEX;
        }
        if (!within(tolerance, 0, MOST_TOLERANCE)) {
            return BAD_VALUE;
        }
        history.record(now);
        return decimator.reduce(edited, tolerance);
    }

    public int append(int letter) {
        if (!within(letter, 0, 127)) {
            return BAD_VALUE;
        }
        return text.length >= MOST_LETTERS ? FULL : text.add(letter);
    }

    public int clearText() {
        int had = text.length;
        text.length = 0;
        return had;
    }

    public int faultPosition(boolean formula) {
        return formula ? formulaReader.read(text) : curveReader.read(text);
    }

    public int readCurve(int curve) {
        Curve edited = now.curveAt(curve);
        if (edited == null) {
            return BAD_INDEX;
        }
        if (curveReader.read(text) != NONE) {
            return BAD_VALUE;
        }
        history.record(now);
        edited.copyKeys(curveReader.result);
        return edited.count;
    }

    public int readFormula() {
        if (formulaReader.read(text) != NONE) {
            return BAD_VALUE;
        }
        history.record(now);
        now.formula.copy(formulaReader.result);
        return now.formula.operands();
    }

    public int mix(int frame) {
        return within(frame, 0, LAST_FRAME) ? mixer.run(now, frame) : BAD_VALUE;
    }

    public int undo() {
        return history.restore(now);
    }

    public long checksum() {
        long sum = 23;
        for (int i = 0; i < CURVES; i++) {
            Curve summed = now.curveAt(i);
            if (summed != null) {
                sum = summed.addTo(sum);
            }
        }
        sum = now.map.addTo(sum);
        for (int frame = 0; frame <= LAST_FRAME; frame += CHECKSUM_STEP) {
            sum = 31 * sum + mixer.run(now, frame);
        }
        return sum;
    }

    private static boolean within(int number, int least, int most) {
        return number >= least && number <= most;
    }

    private static boolean isRange(int from, int to, int last) {
        return from >= 0 && from <= to && to <= last;
    }

    /** How many of the frames from, from + step, and so on are not beyond to. */
    private static int stepsIn(int from, int to, int step) {
        return step > 0 ? (to - from) / step + 1 : 0;
    }

    /** Reads a row; the index is tested here, once for all readers. */
    private static int at(int[] row, int index) {
        return index >= 0 && index < row.length ? row[index] : 0;
    }

    /** Writes into a row; the index is tested here, once for all writers. */
    private static void put(int[] row, int index, int content) {
        if (index >= 0 && index < row.length) {
            row[index] = content;
        }
    }

    private static void copyRow(int[] from, int[] to) {
        System.arraycopy(from, 0, to, 0, Math.min(from.length, to.length));
    }

    /** The integer nearest to n / d, of two the greater one. */
    private static long round(long n, long d) {
        return d > 0 ? Math.floorDiv(2 * n + d, 2 * d) : 0;
    }

    private static int limited(long number, int most) {
        return (int) Math.max(-most, Math.min(most, number));
    }

    /** The value that a key can have next to a value in parts. */
    private static int nearestValue(int parts) {
        return limited(round(parts, PARTS), MOST_VALUE);
    }

    /** The keys of a curve, ordered by their frames, and its extrapolations. */
    private static final class Curve {
        int count;
        int before = CONSTANT;
        int after = CONSTANT;
        final int[] frames = new int[MOST_KEYS];
        final int[] heights = new int[MOST_KEYS];
        final int[] modes = new int[MOST_KEYS];
        /** The slopes of FREE keys; those of other keys follow from their modes. */
        final int[] ins = new int[MOST_KEYS];
        final int[] outs = new int[MOST_KEYS];

        void copy(Curve other) {
            copyKeys(other);
            before = other.before;
            after = other.after;
        }

        void copyKeys(Curve other) {
            count = other.count;
            copyRow(other.frames, frames);
            copyRow(other.heights, heights);
            copyRow(other.modes, modes);
            copyRow(other.ins, ins);
            copyRow(other.outs, outs);
        }

        boolean has(int key) {
            return key >= 0 && key < count;
        }

        /** The number of the key at a frame, or -1. */
        int find(int frame) {
            int key = keysBefore(frame);
            return has(key) && at(frames, key) == frame ? key : -1;
        }

        int keysBefore(int frame) {
            int key = 0;
            while (key < count && at(frames, key) < frame) {
                key++;
            }
            return key;
        }

        int bothExtrapolations() {
            return 10 * before + after;
        }

        /** Inserts a key at a frame without a key, and returns its number. */
        int insert(int frame, int height, int mode, int in, int out) {
            int key = keysBefore(frame);
            for (int i = count; i > key; i--) {
                shift(i - 1, i);
            }
            count++;
            put(frames, key, frame);
            put(heights, key, height);
            put(modes, key, mode);
            put(ins, key, in);
            put(outs, key, out);
            return key;
        }

        void drop(int key) {
            for (int i = key + 1; i < count; i++) {
                shift(i, i - 1);
            }
            count--;
        }

        private void shift(int from, int to) {
            put(frames, to, at(frames, from));
            put(heights, to, at(heights, from));
            put(modes, to, at(modes, from));
            put(ins, to, at(ins, from));
            put(outs, to, at(outs, from));
        }

        int keysOutside(int from, int to) {
            return count - (keysBefore(to + 1) - keysBefore(from));
        }

        /** Puts LINEAR keys with given heights in place of all keys of a range. */
        void replaceRange(int from, int to, int step, int[] given) {
            int first = keysBefore(from);
            for (int key = keysBefore(to + 1) - 1; key >= first; key--) {
                drop(key);
            }
            int fresh = stepsIn(from, to, step);
            for (int i = 0; i < fresh; i++) {
                insert(from + i * step, at(given, i), LINEAR, 0, 0);
            }
        }

        int move(int key, int to) {
            int height = at(heights, key);
            int mode = at(modes, key);
            int in = at(ins, key);
            int out = at(outs, key);
            drop(key);
            return insert(to, height, mode, in, out);
        }

        void changeMode(int key, int mode) {
            if (mode == FREE && at(modes, key) != FREE) {
                int in = tangent(key, false);
                int out = tangent(key, true);
                put(ins, key, limited(in, MOST_SLOPE));
                put(outs, key, limited(out, MOST_SLOPE));
            }
            put(modes, key, mode);
        }

        /** Inserts a key in front of the key behind, and keeps the shape as far as possible. */
        int divide(int frame, int behind) {
            boolean held = at(modes, behind - 1) == HOLD;
            int height = held ? at(heights, behind - 1) : nearestValue(partsAt(frame));
            long rise = (long) partsAt(frame + 1) - partsAt(frame - 1);
            int slope = limited(round(rise, 2), MOST_SLOPE);
            freeUnlessHold(behind - 1);
            freeUnlessHold(behind);
            return insert(frame, height, held ? HOLD : FREE, slope, slope);
        }

        private void freeUnlessHold(int key) {
            if (at(modes, key) != HOLD) {
                changeMode(key, FREE);
            }
        }

        /** Gives the keys their new frames; slopes are changed by the old ones. */
        void retimeKeys(TimeMap map, int[] sent) {
            for (int key = 0; key < count; key++) {
                int old = at(frames, key);
                if (at(modes, key) == FREE) {
                    put(ins, key, map.stretched(at(ins, key), old, false));
                    put(outs, key, map.stretched(at(outs, key), old, true));
                }
                put(frames, key, at(sent, key));
            }
        }

        /** The in slope or the out slope that a key has by its mode. */
        int tangent(int key, boolean out) {
            int mode = at(modes, key);
            if (mode == FREE) {
                return at(out ? outs : ins, key);
            }
            if (count < 2 || mode == FLAT || mode == HOLD) {
                return 0;
            }
            boolean first = key == 0;
            boolean last = key == count - 1;
            if (mode == LINEAR) {
                return first || out && !last ? secant(key, key + 1) : secant(key - 1, key);
            }
            int auto = secant(first ? key : key - 1, last ? key : key + 1);
            if (mode == AUTO) {
                return auto;
            }
            if (first || last) {
                return 0;
            }
            if (mode == CLAMPED) {
                return isBetweenNeighbors(key) ? auto : 0;
            }
            return monotone(auto, secant(key - 1, key), secant(key, key + 1));
        }

        private int secant(int key, int next) {
            long rise = (long) at(heights, next) - at(heights, key);
            return (int) round(PARTS * rise, at(frames, next) - at(frames, key));
        }

        private boolean isBetweenNeighbors(int key) {
            int height = at(heights, key);
            int left = at(heights, key - 1);
            int right = at(heights, key + 1);
            return height > Math.min(left, right) && height < Math.max(left, right);
        }

        private static int monotone(int auto, int left, int right) {
            boolean sameSign = left > 0 && right > 0 || left < 0 && right < 0;
            if (!sameSign) {
                return 0;
            }
            return limited(auto, 3 * Math.min(Math.abs(left), Math.abs(right)));
        }

        /** The value in parts at any frame; 0 without keys. */
        int partsAt(int frame) {
            if (count < 1) {
                return 0;
            }
            int start = at(frames, 0);
            int end = at(frames, count - 1);
            int kind = extrapolation(frame, start, end);
            int inner = folded(kind, frame, start, end);
            int key = keysBefore(inner + 1) - 1;
            long parts = at(frames, key) == inner ? PARTS * at(heights, key) : between(key, inner);
            if (kind == SLOPE) {
                parts += (long) tangent(key, frame > end) * (frame - inner);
            }
            if (kind == OFFSET && end > start) {
                long rise = (long) at(heights, count - 1) - at(heights, 0);
                parts += Math.floorDiv(frame - start, end - start) * PARTS * rise;
            }
            return (int) parts;
        }

        /** The extrapolation that a frame needs; between the keys, and with one key, CONSTANT does nothing. */
        private int extrapolation(int frame, int start, int end) {
            if (start == end || frame >= start && frame <= end) {
                return CONSTANT;
            }
            return frame < start ? before : after;
        }

        /** The frame between the first and the last key at which the curve is looked up. */
        private static int folded(int kind, int frame, int start, int end) {
            int length = end - start;
            if (kind == CONSTANT || kind == SLOPE || length < 1) {
                return Math.max(start, Math.min(end, frame));
            }
            if (kind != BOUNCE) {
                return start + Math.floorMod(frame - start, length);
            }
            int way = Math.floorMod(frame - start, 2 * length);
            return way <= length ? start + way : start + 2 * length - way;
        }

        /** The value in parts between a key and the next one. */
        private int between(int key, int frame) {
            int p = PARTS * at(heights, key);
            if (at(modes, key) == HOLD) {
                return p;
            }
            int q = PARTS * at(heights, key + 1);
            int start = at(frames, key);
            int length = at(frames, key + 1) - start;
            return hermite(p, q, tangent(key, true), tangent(key + 1, false), length, frame - start);
        }

        private static int hermite(long p, long q, long m, long n, long d, long x) {
            long square = x * x;
            long cube = square * x;
            long toward = 3 * square * d - 2 * cube;
            long whole = d * d * d;
            long sum = p * (whole - toward) + q * toward
                    + d * m * (cube - 2 * square * d + x * d * d)
                    + d * n * (cube - square * d);
            return (int) round(sum, whole);
        }

        /** The greatest difference to the samples from the first to the last key; it ends at differences from enough on. */
        int distance(int[] samples, int enough) {
            int worst = 0;
            for (int key = 0; key + 1 < count && worst < enough; key++) {
                int p = PARTS * at(heights, key);
                int q = PARTS * at(heights, key + 1);
                boolean held = at(modes, key) == HOLD;
                int m = tangent(key, true);
                int n = tangent(key + 1, false);
                int start = at(frames, key);
                int length = at(frames, key + 1) - start;
                for (int x = 1; x < length && worst < enough; x++) {
                    int parts = held ? p : hermite(p, q, m, n, length, x);
                    worst = Math.max(worst, Math.abs(parts - at(samples, start + x)));
                }
            }
            return worst;
        }

        long addTo(long checksum) {
            long sum = 31 * checksum + count;
            for (int key = 0; key < count; key++) {
                sum = 31 * sum + at(frames, key);
                sum = 31 * sum + at(heights, key);
                sum = 31 * sum + at(modes, key);
                sum = 31 * sum + tangent(key, false);
                sum = 31 * sum + tangent(key, true);
            }
            sum = 31 * sum + bothExtrapolations();
            for (int frame = 0; frame <= LAST_FRAME && count > 0; frame += CHECKSUM_STEP) {
                sum = 31 * sum + partsAt(frame);
            }
            return sum;
        }
    }

    /** The retiming map. */
    private static final class TimeMap {
        int count;
        private final int[] sources = new int[MOST_POINTS];
        private final int[] targets = new int[MOST_POINTS];

        void copy(TimeMap other) {
            count = other.count;
            copyRow(other.sources, sources);
            copyRow(other.targets, targets);
        }

        boolean canFollow(int source, int target) {
            return count == 0 || source > at(sources, count - 1) && target > at(targets, count - 1);
        }

        void add(int source, int target) {
            put(sources, count, source);
            put(targets, count, target);
            count++;
        }

        int send(int frame) {
            if (count == 0) {
                return frame;
            }
            int behind = pointsBefore(frame);
            if (behind == 0 || behind == count) {
                int end = behind == 0 ? 0 : count - 1;
                return frame + at(targets, end) - at(sources, end);
            }
            int start = behind - 1;
            long way = (long) (frame - at(sources, start)) * targetLength(start);
            return at(targets, start) + (int) round(way, sourceLength(start));
        }

        /** A slope at an old frame, changed by the two points round it, if there are two. */
        int stretched(int slope, int frame, boolean out) {
            // At a source frame the out slope looks at the points at and behind it.
            int behind = pointsBefore(out ? frame + 1 : frame);
            if (behind == 0 || behind == count) {
                return slope;
            }
            int start = behind - 1;
            return limited(round((long) slope * sourceLength(start), targetLength(start)), MOST_SLOPE);
        }

        private int pointsBefore(int frame) {
            int point = 0;
            while (point < count && at(sources, point) < frame) {
                point++;
            }
            return point;
        }

        private int sourceLength(int point) {
            return at(sources, point + 1) - at(sources, point);
        }

        private int targetLength(int point) {
            return at(targets, point + 1) - at(targets, point);
        }

        long addTo(long checksum) {
            long sum = 31 * checksum + count;
            for (int point = 0; point < count; point++) {
                sum = 31 * sum + at(sources, point);
                sum = 31 * sum + at(targets, point);
            }
            return sum;
        }
    }

    /** A formula as steps for a stack: operands first, then what is done with them. */
    private static final class Formula {
        /** At first the one step is the number 0. */
        int count = 1;
        final int[] kinds = new int[MOST_LETTERS];
        final int[] details = new int[MOST_LETTERS];

        void copy(Formula other) {
            count = other.count;
            copyRow(other.kinds, kinds);
            copyRow(other.details, details);
        }

        void add(int kind, int detail) {
            put(kinds, count, kind);
            put(details, count, detail);
            count++;
        }

        int operands() {
            int found = 0;
            for (int step = 0; step < count; step++) {
                int kind = at(kinds, step);
                found += kind == NUMBER || kind == CURVE ? 1 : 0;
            }
            return found;
        }
    }

    /** All that undo brings back. */
    private static final class State {
        final TimeMap map = new TimeMap();
        final Formula formula = new Formula();
        private final Curve[] curves = new Curve[CURVES];

        State() {
            for (int i = 0; i < curves.length; i++) {
                curves[i] = new Curve();
            }
        }

        /** The curve with a number, or null. */
        Curve curveAt(int index) {
            return index >= 0 && index < curves.length ? curves[index] : null;
        }

        void copyAll(State other) {
            map.copy(other.map);
            formula.copy(other.formula);
            for (int i = 0; i < CURVES; i++) {
                Curve mine = curveAt(i);
                Curve theirs = other.curveAt(i);
                if (mine != null && theirs != null) {
                    mine.copy(theirs);
                }
            }
        }
    }

    /** The latest states, in a ring, so that the oldest one gives its place to the newest. */
    private static final class History {
        private int oldest;
        private int count;
        private final State[] states = new State[MOST_STATES];

        History() {
            for (int i = 0; i < states.length; i++) {
                states[i] = new State();
            }
        }

        void record(State state) {
            if (count == MOST_STATES) {
                oldest = (oldest + 1) % MOST_STATES;
                count--;
            }
            State kept = stateAt((oldest + count) % MOST_STATES);
            if (kept != null) {
                kept.copyAll(state);
            }
            count++;
        }

        /** Brings the latest state back, and returns the number of those that are left, or NONE. */
        int restore(State state) {
            if (count == 0) {
                return NONE;
            }
            count--;
            State kept = stateAt((oldest + count) % MOST_STATES);
            if (kept != null) {
                state.copyAll(kept);
            }
            return count;
        }

        private State stateAt(int index) {
            return index >= 0 && index < states.length ? states[index] : null;
        }
    }

    /** The text buffer, and a place in it for the readers. */
    private static final class Text {
        private static final int END = -1;
        private static final int NO_FAULT = -1;

        int length;
        int position;
        private int fault = NO_FAULT;
        private final int[] letters = new int[MOST_LETTERS];

        int add(int letter) {
            put(letters, length, letter);
            length++;
            return length;
        }

        void rewind() {
            position = 0;
            fault = NO_FAULT;
        }

        /** The letter at the place; behind a fault the text seems to end, so that all readers come to their ends. */
        int peek() {
            return fault == NO_FAULT && position < length ? at(letters, position) : END;
        }

        boolean accept(int letter) {
            if (peek() != letter) {
                return false;
            }
            position++;
            return true;
        }

        void expect(int letter) {
            if (!accept(letter)) {
                fail(position);
            }
        }

        /** The first fault is the one that counts. */
        void fail(int place) {
            if (fault == NO_FAULT) {
                fault = place;
            }
        }

        int number() {
            int start = position;
            int number = 0;
            int digits = 0;
            while (digits < MOST_LETTERS && peek() >= '0' && peek() <= '9') {
                // More digits are a fault; they are not added up, for they could overflow.
                number = digits < MOST_DIGITS ? 10 * number + peek() - '0' : number;
                digits++;
                position++;
            }
            if (digits < 1 || digits > MOST_DIGITS) {
                fail(start);
            }
            return number;
        }

        /** The fault position, when all is read that should be there, or NONE. */
        int verdict() {
            if (position < length) {
                fail(position);
            }
            return fault == NO_FAULT ? NONE : fault;
        }
    }

    /** Reads a text as a formula. */
    private static final class FormulaReader {
        /** The formula, if the text had no fault. */
        final Formula result = new Formula();

        int read(Text text) {
            text.rewind();
            result.count = 0;
            sum(text, 0);
            return text.verdict();
        }

        private void sum(Text text, int depth) {
            product(text, depth);
            for (int i = 0; i < MOST_LETTERS; i++) {
                int kind = text.peek() == '+' ? PLUS : MINUS;
                if (!text.accept('+') && !text.accept('-')) {
                    return;
                }
                product(text, depth);
                result.add(kind, 0);
            }
        }

        private void product(Text text, int depth) {
            factor(text, depth);
            for (int i = 0; i < MOST_LETTERS && text.accept('*'); i++) {
                factor(text, depth);
                result.add(TIMES, 0);
            }
        }

        private void factor(Text text, int depth) {
            int letter = text.peek();
            if (letter >= 'a' && letter <= 'd') {
                curve(text, letter);
            } else if (letter == 'm') {
                choice(text, depth);
            } else if (letter == '(') {
                if (opens(text, letter, depth)) {
                    sum(text, depth + 1);
                    text.expect(')');
                }
            } else if (letter == '-') {
                if (opens(text, letter, depth)) {
                    factor(text, depth + 1);
                    result.add(NEGATE, 0);
                }
            } else {
                result.add(NUMBER, text.number());
            }
        }

        private void curve(Text text, int letter) {
            text.expect(letter);
            int back = text.accept('@') ? text.number() : 0;
            result.add(CURVE, (letter - 'a') * LOOK_BACK + back);
        }

        private void choice(Text text, int depth) {
            text.expect('m');
            boolean least = text.accept('i');
            if (!least) {
                text.expect('a');
            }
            text.expect(least ? 'n' : 'x');
            if (opens(text, '(', depth)) {
                sum(text, depth + 1);
                text.expect(',');
                sum(text, depth + 1);
                text.expect(')');
                result.add(least ? LEAST : GREATEST, 0);
            }
        }

        /** Goes a level deeper, if the letter is there and the level is allowed; else this letter is the fault. */
        private static boolean opens(Text text, int letter, int depth) {
            if (depth < MOST_NESTING && text.accept(letter)) {
                return true;
            }
            text.fail(text.position);
            return false;
        }
    }

    /** Reads a text as the keys of a curve. */
    private static final class CurveReader {
        /** The keys, if the text had no fault. */
        final Curve result = new Curve();

        int read(Text text) {
            text.rewind();
            result.count = 0;
            key(text);
            // A comma behind the last key that there is room for stays unread, and so is the fault.
            for (int keys = 1; keys < MOST_KEYS && text.accept(','); keys++) {
                key(text);
            }
            text.expect(';');
            return text.verdict();
        }

        private void key(Text text) {
            int start = text.position;
            int frame = text.number();
            if (frame > LAST_KEY_FRAME || result.count > 0 && frame <= at(result.frames, result.count - 1)) {
                text.fail(start);
            }
            text.expect(':');
            int sign = text.accept('-') ? -1 : 1;
            int height = sign * text.number();
            result.insert(frame, height, mode(text), 0, 0);
        }

        private static int mode(Text text) {
            if (text.accept('T')) {
                return FLAT;
            }
            if (text.accept('L')) {
                return LINEAR;
            }
            if (text.accept('C')) {
                return CLAMPED;
            }
            if (text.accept('M')) {
                return MONOTONE;
            }
            if (text.accept('H')) {
                return HOLD;
            }
            text.accept('A');
            return AUTO;
        }
    }

    /** Carries out formulas. */
    private static final class Mixer {
        /** A step lays at most one number on the stack, so that this is always long enough. */
        private final int[] stack = new int[MOST_LETTERS];

        int run(State state, int frame) {
            Formula formula = state.formula;
            int top = -1;
            for (int step = 0; step < formula.count; step++) {
                int kind = at(formula.kinds, step);
                int detail = at(formula.details, step);
                if (kind == NUMBER) {
                    top++;
                    put(stack, top, PARTS * detail);
                } else if (kind == CURVE) {
                    Curve curve = state.curveAt(detail / LOOK_BACK);
                    int earlier = Math.max(0, frame - detail % LOOK_BACK);
                    top++;
                    put(stack, top, curve == null ? 0 : curve.partsAt(earlier));
                } else if (kind == NEGATE) {
                    put(stack, top, limited(-(long) at(stack, top), MOST_MIX));
                } else {
                    top--;
                    put(stack, top, combined(kind, at(stack, top), at(stack, top + 1)));
                }
            }
            return at(stack, 0);
        }

        private static int combined(int kind, int v, int w) {
            switch (kind) {
                case PLUS:
                    return limited((long) v + w, MOST_MIX);
                case MINUS:
                    return limited((long) v - w, MOST_MIX);
                case TIMES:
                    return limited(round((long) v * w, PARTS), MOST_MIX);
                case LEAST:
                    return Math.min(v, w);
                default:
                    return Math.max(v, w);
            }
        }
    }

    /** Finds a shortest polyline, from the last frame of a range back to its first one. */
    private static final class Polyline {
        private int last;
        private final int[] samples = new int[MOST_REACH + 1];
        /** For each frame: the best line from it to the last one, by its size, its differences and its next frame. */
        private final int[] sizes = new int[MOST_REACH + 1];
        private final int[] sums = new int[MOST_REACH + 1];
        private final int[] nexts = new int[MOST_REACH + 1];

        void solve(Curve curve, int from, int to, int tolerance) {
            last = to - from;
            for (int i = 0; i <= last; i++) {
                put(samples, i, curve.partsAt(from + i));
            }
            put(sizes, last, 1);
            put(sums, last, 0);
            for (int i = last - 1; i >= 0; i--) {
                chooseNext(i, tolerance);
            }
        }

        /** Of equally good next frames the first one is taken, and so the line comes first in lexicographic order. */
        private void chooseNext(int start, int tolerance) {
            int bestSize = Integer.MAX_VALUE;
            int bestSum = Integer.MAX_VALUE;
            for (int end = start + 1; end <= last; end++) {
                int size = at(sizes, end) + 1;
                int misfit = size > bestSize ? -1 : misfit(start, end, tolerance);
                int sum = at(sums, end) + misfit;
                if (misfit >= 0 && (size < bestSize || sum < bestSum)) {
                    bestSize = size;
                    bestSum = sum;
                    put(nexts, start, end);
                }
            }
            put(sizes, start, bestSize);
            put(sums, start, bestSum);
        }

        /** The sum of the differences between two neighbors of a line, or -1 if one is above the tolerance. */
        private int misfit(int start, int end, int tolerance) {
            long first = at(samples, start);
            long rise = at(samples, end) - first;
            int sum = 0;
            for (int i = start + 1; i < end; i++) {
                long difference = Math.abs(first + round(rise * (i - start), end - start) - at(samples, i));
                if (difference > tolerance) {
                    return -1;
                }
                sum += (int) difference;
            }
            return sum;
        }

        int size() {
            return at(sizes, 0);
        }

        /** The frame at an index of the line, or NONE. */
        int frameAt(int from, int index) {
            if (index < 0 || index >= size()) {
                return NONE;
            }
            int place = 0;
            for (int i = 0; i < index; i++) {
                place = at(nexts, place);
            }
            return from + place;
        }
    }

    /** Removes keys, the cheapest one first. */
    private static final class Decimator {
        private final int[] samples = new int[LAST_KEY_FRAME + 1];
        private final Curve trial = new Curve();

        int reduce(Curve curve, int tolerance) {
            int had = curve.count;
            int end = had < 1 ? -1 : at(curve.frames, had - 1);
            for (int frame = had < 1 ? 0 : at(curve.frames, 0); frame <= end; frame++) {
                put(samples, frame, curve.partsAt(frame));
            }
            int key = cheapest(curve, tolerance);
            for (int i = 0; i < MOST_KEYS && key > 0; i++) {
                curve.drop(key);
                key = cheapest(curve, tolerance);
            }
            return had - curve.count;
        }

        /** The key with the smallest error that is at most the tolerance, or -1. */
        private int cheapest(Curve curve, int tolerance) {
            int found = -1;
            int least = tolerance + 1;
            for (int key = 1; key < curve.count - 1; key++) {
                trial.copy(curve);
                trial.drop(key);
                int error = trial.distance(samples, least);
                if (error < least) {
                    found = key;
                    least = error;
                }
            }
            return found;
        }
    }
}
