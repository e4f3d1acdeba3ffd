/**
 * Curves of values that move over frames: keys with eases and tangents, what they answer at each
 * frame, what they would answer otherwise, and curves that are read from a text.
 */
public final class EaseCurves {
    public static final int NONE = -1;

    private static final int CURVES = 4;
    private static final int KEYS = 16;
    private static final int STATES = 4;
    private static final int TEXT_BYTES = 150;
    private static final int GREATEST_BYTE = 127;

    private static final int FRAMES = 1000;
    private static final int LAST_FRAME = FRAMES - 1;
    private static final int GREATEST_VALUE = 9999;
    private static final int GREATEST_SLOPE = 99999;
    private static final int GREATEST_LEVEL = 99999;
    private static final int GREATEST_TOLERANCE = 9999;
    private static final int LEAST_PERCENT = 10;
    private static final int GREATEST_PERCENT = 500;
    private static final int PERCENT_STEP = 10;
    private static final int UNSTRETCHED_PERCENT = 100;

    // The eases that move; with any other one, hold, the value stays that of the key.
    private static final int EASE_LINEAR = 1;
    private static final int EASE_IN = 2;
    private static final int EASE_OUT = 3;
    private static final int EASE_SMOOTH = 4;
    private static final int EASE_TANGENTS = 5;
    private static final int LAST_EASE = 5;

    private static final int MODE_BY_HAND = 0;
    private static final int MODE_SMOOTH = 1;
    private static final int MODE_LEVEL = 2;
    private static final int LAST_MODE = 2;

    // The cells of a key, as a curve keeps them.
    private static final int FRAME = 0;
    private static final int VALUE = 1;
    private static final int EASE = 2;
    private static final int MODE = 3;
    private static final int SLOPE = 4;
    private static final int LOCKED = 5;
    private static final int CELLS = 6;

    // What key() tells; up to the slope its numbers are those of the cells.
    private static final int TELL_TANGENT = 5;
    private static final int TELL_LOCKED = 6;
    private static final int LAST_TELL = 6;

    // What extreme() tells.
    private static final int GREATEST = 0;
    private static final int GREATEST_FRAME = 1;
    private static final int SMALLEST = 2;
    private static final int SMALLEST_FRAME = 3;
    private static final int LAST_EXTREME = 4;

    private static final long DIGEST_START = 3323;
    private static final int DIGEST_STEP = 37;

    private final State present;
    private final State[] saved;
    private int savedCount;
    private final CurveText text;

    // Rows and a curve for work, made once, since what calls make is counted.
    private final Curve trial;
    private final int[] values;
    private final int[] otherValues;

    public EaseCurves() {
        present = new State();
        saved = new State[STATES];
        for (int i = 0; i < STATES; i++) {
            saved[i] = new State();
        }
        savedCount = 0;
        text = new CurveText();
        trial = new Curve();
        values = new int[FRAMES];
        otherValues = new int[FRAMES];
    }

    // ---- keys

    public int addKey(int curve, int frame, int value, int ease)
            throws IndexOutOfBoundsException, IllegalArgumentException, IllegalStateException {
        Curve target = curveNumbered(curve);
        requireRange(frame, 0, LAST_FRAME);
        requireRange(value, -GREATEST_VALUE, GREATEST_VALUE);
        requireRange(ease, 0, LAST_EASE);
        if (target.count >= KEYS) {
            throw new IllegalStateException("the curve has all its keys");
        }
        if (target.numberAtFrame(frame) != NONE) {
            throw new IllegalStateException("the curve has a key with this frame");
        }
        saveState();
        return target.insert(frame, value, ease, MODE_BY_HAND, 0, 0);
    }

    public int removeKey(int curve, int key)
            throws IndexOutOfBoundsException, IllegalStateException {
        Curve target = curveNumbered(curve);
        requireKey(target, key);
        requireUnlocked(target, key);
        saveState();
        target.takeOut(key);
        return target.count;
    }

    public int setKey(int curve, int key, int value, int ease)
            throws IndexOutOfBoundsException, IllegalArgumentException, IllegalStateException {
        Curve target = curveNumbered(curve);
        requireKey(target, key);
        requireRange(value, -GREATEST_VALUE, GREATEST_VALUE);
        requireRange(ease, 0, LAST_EASE);
        requireUnlocked(target, key);
        saveState();
        int previous = target.cell(key, VALUE);
        target.put(key, VALUE, value);
        target.put(key, EASE, ease);
        return previous;
    }

    public int moveKey(int curve, int key, int frame)
            throws IndexOutOfBoundsException, IllegalArgumentException, IllegalStateException {
        Curve target = curveNumbered(curve);
        requireKey(target, key);
        requireRange(frame, 0, LAST_FRAME);
        requireUnlocked(target, key);
        int holder = target.numberAtFrame(frame);
        if (holder != NONE && holder != key) {
            throw new IllegalStateException("another key has this frame");
        }
        saveState();
        return target.moveTo(key, frame);
    }

    public int setTangent(int curve, int key, int mode, int slope)
            throws IndexOutOfBoundsException, IllegalArgumentException, IllegalStateException {
        Curve target = curveNumbered(curve);
        requireKey(target, key);
        requireRange(mode, 0, LAST_MODE);
        requireRange(slope, -GREATEST_SLOPE, GREATEST_SLOPE);
        requireUnlocked(target, key);
        saveState();
        int previous = target.tangentOf(key);
        target.put(key, MODE, mode);
        target.put(key, SLOPE, slope);
        return previous;
    }

    public int lock(int curve, int key, boolean locked) throws IndexOutOfBoundsException {
        Curve target = curveNumbered(curve);
        requireKey(target, key);
        saveState();
        int previous = target.cell(key, LOCKED);
        target.put(key, LOCKED, locked ? 1 : 0);
        return previous;
    }

    public int stretch(int curve, int from, int to, int percent)
            throws IndexOutOfBoundsException, IllegalArgumentException, IllegalStateException {
        Curve target = curveNumbered(curve);
        requireSpan(from, to);
        requireRange(percent, LEAST_PERCENT, GREATEST_PERCENT);
        if (!target.canStretch(from, to, percent)) {
            throw new IllegalStateException("the span cannot be stretched so");
        }
        saveState();
        return target.stretchSpan(from, to, percent);
    }

    public int copy(int curve, int source, int offset)
            throws IndexOutOfBoundsException, IllegalArgumentException, IllegalStateException {
        Curve target = curveNumbered(curve);
        Curve model = curveNumbered(source);
        requireRange(offset, -GREATEST_VALUE, GREATEST_VALUE);
        requireNoLock(target);
        if (!model.canRaise(offset)) {
            throw new IllegalStateException("a value would be out of range");
        }
        saveState();
        target.become(model);
        target.raise(offset);
        return target.count;
    }

    public int reduce(int curve, int tolerance)
            throws IndexOutOfBoundsException, IllegalArgumentException {
        Curve target = curveNumbered(curve);
        requireRange(tolerance, 0, GREATEST_TOLERANCE);
        saveState();
        int removed = 0;
        for (int round = 0; round < KEYS; round++) {
            int key = keyToLeaveOut(target, tolerance);
            if (key == NONE) {
                return removed;
            }
            target.takeOut(key);
            removed++;
        }
        return removed;
    }

    public int key(int curve, int key, int what)
            throws IndexOutOfBoundsException, IllegalArgumentException {
        Curve target = curveNumbered(curve);
        if (key != NONE) {
            requireKey(target, key);
        }
        requireRange(what, 0, LAST_TELL);
        return key == NONE ? target.count : aboutKey(target, key, what);
    }

    // ---- values

    public int value(int curve, int frame)
            throws IndexOutOfBoundsException, IllegalArgumentException {
        Curve target = curveNumbered(curve);
        requireRange(frame, 0, LAST_FRAME);
        return target.valueAt(frame);
    }

    public long sum(int curve, int from, int to)
            throws IndexOutOfBoundsException, IllegalArgumentException {
        Curve target = curveNumbered(curve);
        requireFrames(from, to);
        return sumOver(target, from, to);
    }

    public int extreme(int curve, int from, int to, int what)
            throws IndexOutOfBoundsException, IllegalArgumentException {
        Curve target = curveNumbered(curve);
        requireFrames(from, to);
        requireRange(what, 0, LAST_EXTREME);
        target.bake(values, from, to);
        switch (what) {
            case GREATEST:
                return values[frameOfGreatest(from, to)];
            case GREATEST_FRAME:
                return frameOfGreatest(from, to);
            case SMALLEST:
                return values[frameOfSmallest(from, to)];
            case SMALLEST_FRAME:
                return frameOfSmallest(from, to);
            default:
                return greatestStep(from, to);
        }
    }

    public int crossings(int curve, int level)
            throws IndexOutOfBoundsException, IllegalArgumentException {
        Curve target = curveNumbered(curve);
        requireRange(level, -GREATEST_LEVEL, GREATEST_LEVEL);
        target.bake(values, 0, LAST_FRAME);
        int crossed = 0;
        for (int f = 1; f < FRAMES; f++) {
            if ((values[f] >= level) != (values[f - 1] >= level)) {
                crossed++;
            }
        }
        return crossed;
    }

    public int difference(int curve, int other) throws IndexOutOfBoundsException {
        Curve one = curveNumbered(curve);
        Curve another = curveNumbered(other);
        one.bake(values, 0, LAST_FRAME);
        another.bake(otherValues, 0, LAST_FRAME);
        return greatestDifference(0, LAST_FRAME);
    }

    public double mean(int curve) throws IndexOutOfBoundsException {
        Curve target = curveNumbered(curve);
        return (double) sumOver(target, 0, LAST_FRAME) / 1000.0;
    }

    // ---- what if

    public int error(int curve, int key) throws IndexOutOfBoundsException {
        Curve target = curveNumbered(curve);
        requireKey(target, key);
        if (!target.mayLeaveOut(key)) {
            return NONE;
        }
        target.bake(values, 0, LAST_FRAME);
        return differenceWithout(target, key);
    }

    public int greatestStretch(int curve, int from, int to)
            throws IndexOutOfBoundsException, IllegalArgumentException {
        Curve target = curveNumbered(curve);
        requireSpan(from, to);
        for (int p = GREATEST_PERCENT; p > UNSTRETCHED_PERCENT; p -= PERCENT_STEP) {
            if (target.canStretch(from, to, p)) {
                return p;
            }
        }
        return UNSTRETCHED_PERCENT;
    }

    public int leastEase(int curve, int key) throws IndexOutOfBoundsException {
        Curve target = curveNumbered(curve);
        requireKey(target, key);
        if (key == target.count - 1) {
            throw new IndexOutOfBoundsException("no span is behind the last key");
        }
        int from = target.cell(key, FRAME);
        int to = target.cell(key + 1, FRAME);
        trial.become(target);
        int best = 0;
        long least = 0;
        for (int ease = 0; ease <= LAST_EASE; ease++) {
            trial.put(key, EASE, ease);
            long total = sumOver(trial, from, to);
            if (ease == 0 || total < least) {
                best = ease;
                least = total;
            }
        }
        return best;
    }

    // ---- text

    public int append(int value) throws IllegalArgumentException, IllegalStateException {
        requireRange(value, 0, GREATEST_BYTE);
        if (text.length >= TEXT_BYTES) {
            throw new IllegalStateException("the text is full");
        }
        text.add(value);
        return text.length;
    }

    public int clearText() {
        int previous = text.length;
        text.length = 0;
        return previous;
    }

    public int parse(int curve) throws IndexOutOfBoundsException, IllegalStateException {
        Curve target = curveNumbered(curve);
        int fault = text.readInto(trial);
        if (fault != NONE) {
            return -10 - fault;
        }
        requireNoLock(target);
        saveState();
        target.become(trial);
        return target.count;
    }

    // ---- state

    public int undo() throws IllegalStateException {
        if (savedCount <= 0) {
            throw new IllegalStateException("no state is saved");
        }
        savedCount--;
        present.become(saved[savedCount]);
        return savedCount;
    }

    public long digest() {
        long h = 31 * DIGEST_START + text.length;
        for (int i = 0; i < CURVES; i++) {
            h = digestOfCurve(h, present.curves[i]);
        }
        return 31 * h + savedCount;
    }

    // ---- what the arguments must be

    private Curve curveNumbered(int curve) {
        if (curve < 0 || curve >= CURVES) {
            throw new IndexOutOfBoundsException("no such curve");
        }
        return present.curves[curve];
    }

    private static void requireKey(Curve curve, int key) {
        if (key < 0 || key >= curve.count) {
            throw new IndexOutOfBoundsException("no such key");
        }
    }

    private static void requireRange(int number, int least, int greatest) {
        if (number < least || number > greatest) {
            throw new IllegalArgumentException("an argument is out of range");
        }
    }

    private static void requireFrames(int from, int to) {
        requireRange(from, 0, LAST_FRAME);
        requireRange(to, from, LAST_FRAME);
    }

    private static void requireSpan(int from, int to) {
        requireRange(from, 0, LAST_FRAME - 1);
        requireRange(to, from + 1, LAST_FRAME);
    }

    private static void requireUnlocked(Curve curve, int key) {
        if (curve.isLocked(key)) {
            throw new IllegalStateException("the key is locked");
        }
    }

    private static void requireNoLock(Curve curve) {
        if (curve.hasLock()) {
            throw new IllegalStateException("the curve has a locked key");
        }
    }

    // ---- helpers

    private void saveState() {
        if (savedCount >= STATES) {
            dropOldestState();
        }
        saved[savedCount].become(present);
        savedCount++;
    }

    /** The room of the oldest state goes behind the others, to be used again. */
    private void dropOldestState() {
        State oldest = saved[0];
        for (int i = 1; i < STATES; i++) {
            saved[i - 1] = saved[i];
        }
        saved[STATES - 1] = oldest;
        savedCount = STATES - 1;
    }

    private static int aboutKey(Curve curve, int key, int what) {
        switch (what) {
            case TELL_TANGENT:
                return curve.tangentOf(key);
            case TELL_LOCKED:
                return curve.cell(key, LOCKED);
            default:
                return curve.cell(key, what);
        }
    }

    private static long digestOfCurve(long start, Curve curve) {
        long h = 31 * start + curve.count;
        for (int key = 0; key < curve.count; key++) {
            for (int what = 0; what <= LAST_TELL; what++) {
                h = 31 * h + aboutKey(curve, key, what);
            }
        }
        for (int f = 0; f < FRAMES; f += DIGEST_STEP) {
            h = 31 * h + curve.valueAt(f);
        }
        return h;
    }

    private long sumOver(Curve curve, int from, int to) {
        curve.bake(values, from, to);
        long total = 0;
        for (int f = from; f <= to; f++) {
            total += values[f];
        }
        return total;
    }

    private int frameOfGreatest(int from, int to) {
        int best = from;
        for (int f = from + 1; f <= to; f++) {
            if (values[f] > values[best]) {
                best = f;
            }
        }
        return best;
    }

    private int frameOfSmallest(int from, int to) {
        int best = from;
        for (int f = from + 1; f <= to; f++) {
            if (values[f] < values[best]) {
                best = f;
            }
        }
        return best;
    }

    private int greatestStep(int from, int to) {
        int greatest = 0;
        for (int f = from + 1; f <= to; f++) {
            greatest = Math.max(greatest, Math.abs(values[f] - values[f - 1]));
        }
        return greatest;
    }

    private int greatestDifference(int from, int to) {
        int greatest = 0;
        for (int f = from; f <= to; f++) {
            greatest = Math.max(greatest, Math.abs(values[f] - otherValues[f]));
        }
        return greatest;
    }

    /** The key with the least error within the tolerance, the first one of several, or NONE. */
    private int keyToLeaveOut(Curve curve, int tolerance) {
        curve.bake(values, 0, LAST_FRAME);
        int best = NONE;
        int least = tolerance + 1;
        for (int key = 0; key < curve.count; key++) {
            if (curve.mayLeaveOut(key)) {
                int difference = differenceWithout(curve, key);
                if (difference < least) {
                    best = key;
                    least = difference;
                }
            }
        }
        return best;
    }

    /** How far the curve without the key is from the baked values of the curve with it. */
    private int differenceWithout(Curve curve, int key) {
        // The tangents of both neighbors can change, and with them one more span on each side;
        // beyond these spans no value can.
        int from = curve.cell(Math.max(key - 2, 0), FRAME);
        int to = curve.cell(Math.min(key + 2, curve.count - 1), FRAME);
        trial.become(curve);
        trial.takeOut(key);
        trial.bake(otherValues, from, to);
        return greatestDifference(from, to);
    }

    /** The keys of one curve, in ascending order of their frames. */
    private static final class Curve {
        private int count;
        private final int[] cells;

        private Curve() {
            count = 0;
            cells = new int[KEYS * CELLS];
        }

        /** A cell of a key; 0 for a key that is not there. */
        private int cell(int key, int what) {
            return key >= 0 && key < count ? cells[key * CELLS + what] : 0;
        }

        private void put(int key, int what, int number) {
            if (key >= 0 && key < count) {
                cells[key * CELLS + what] = number;
            }
        }

        private boolean isLocked(int key) {
            return cell(key, LOCKED) == 1;
        }

        private boolean hasLock() {
            for (int key = 0; key < count; key++) {
                if (isLocked(key)) {
                    return true;
                }
            }
            return false;
        }

        private boolean mayLeaveOut(int key) {
            return key > 0 && key < count - 1 && !isLocked(key);
        }

        /** The number of keys with a frame of at most this one. */
        private int countUpTo(int frame) {
            int up = 0;
            while (up < count && cell(up, FRAME) <= frame) {
                up++;
            }
            return up;
        }

        private int numberAtFrame(int frame) {
            int last = countUpTo(frame) - 1;
            return last >= 0 && cell(last, FRAME) == frame ? last : NONE;
        }

        private int lastFrame() {
            return count == 0 ? NONE : cell(count - 1, FRAME);
        }

        private void become(Curve other) {
            count = other.count;
            System.arraycopy(other.cells, 0, cells, 0, count * CELLS);
        }

        /** Puts a key where its frame wants it, and answers its number. */
        private int insert(int frame, int value, int ease, int mode, int slope, int locked) {
            if (count >= KEYS) {
                return NONE;
            }
            int key = countUpTo(frame);
            int start = key * CELLS;
            System.arraycopy(cells, start, cells, start + CELLS, (count - key) * CELLS);
            count++;
            put(key, FRAME, frame);
            put(key, VALUE, value);
            put(key, EASE, ease);
            put(key, MODE, mode);
            put(key, SLOPE, slope);
            put(key, LOCKED, locked);
            return key;
        }

        private void takeOut(int key) {
            if (key < 0 || key >= count) {
                return;
            }
            int next = (key + 1) * CELLS;
            System.arraycopy(cells, next, cells, next - CELLS, count * CELLS - next);
            count--;
        }

        private int moveTo(int key, int frame) {
            int value = cell(key, VALUE);
            int ease = cell(key, EASE);
            int mode = cell(key, MODE);
            int slope = cell(key, SLOPE);
            int locked = cell(key, LOCKED);
            takeOut(key);
            return insert(frame, value, ease, mode, slope, locked);
        }

        private boolean canRaise(int offset) {
            for (int key = 0; key < count; key++) {
                if (Math.abs(cell(key, VALUE) + offset) > GREATEST_VALUE) {
                    return false;
                }
            }
            return true;
        }

        private void raise(int offset) {
            for (int key = 0; key < count; key++) {
                put(key, VALUE, cell(key, VALUE) + offset);
            }
        }

        private boolean canStretch(int from, int to, int percent) {
            int before = NONE;
            for (int key = 0; key < count; key++) {
                int frame = cell(key, FRAME);
                int moved = stretchedFrame(frame, from, to, percent);
                // Stretching keeps the order, so only neighbors can meet.
                if (moved > LAST_FRAME || moved == before || (isLocked(key) && moved != frame)) {
                    return false;
                }
                before = moved;
            }
            return true;
        }

        private int stretchSpan(int from, int to, int percent) {
            int changed = 0;
            for (int key = 0; key < count; key++) {
                int frame = cell(key, FRAME);
                int moved = stretchedFrame(frame, from, to, percent);
                if (moved != frame) {
                    changed++;
                }
                put(key, FRAME, moved);
            }
            return changed;
        }

        private static int stretchedFrame(int frame, int from, int to, int percent) {
            if (frame < from) {
                return frame;
            }
            if (frame <= to) {
                return from + (frame - from) * percent / 100;
            }
            return frame + (to - from) * percent / 100 - (to - from);
        }

        private int tangentOf(int key) {
            int mode = cell(key, MODE);
            if (mode == MODE_BY_HAND) {
                return cell(key, SLOPE);
            }
            int width = cell(key + 1, FRAME) - cell(key - 1, FRAME);
            if (key <= 0 || key >= count - 1 || width <= 0) {
                return 0;
            }
            int before = cell(key - 1, VALUE);
            int behind = cell(key + 1, VALUE);
            if (mode == MODE_LEVEL && isTurn(before, cell(key, VALUE), behind)) {
                return 0;
            }
            return 1000 * (behind - before) / width;
        }

        private static boolean isTurn(int before, int here, int behind) {
            return (before <= here && behind <= here) || (before >= here && behind >= here);
        }

        private int valueAt(int frame) {
            return valueBehind(countUpTo(frame) - 1, frame);
        }

        /** Fills the row with the values at the frames from..to. */
        private void bake(int[] row, int from, int to) {
            if (from < 0 || to >= row.length) {
                return;
            }
            int last = countUpTo(from) - 1;
            for (int f = from; f <= to; f++) {
                if (last + 1 < count && cell(last + 1, FRAME) <= f) {
                    last++;
                }
                row[f] = valueBehind(last, f);
            }
        }

        /** The value at a frame; key is the last one with a frame of at most it, or NONE. */
        private int valueBehind(int key, int frame) {
            int start = cell(Math.max(key, 0), VALUE);
            long w = cell(key + 1, FRAME) - cell(key, FRAME);
            if (key < 0 || key >= count - 1 || w <= 0) {
                return start;
            }
            long t = 1000 * (frame - cell(key, FRAME)) / w;
            long d = cell(key + 1, VALUE) - start;
            switch (cell(key, EASE)) {
                case EASE_LINEAR:
                    return start + (int) (d * t / 1000);
                case EASE_IN:
                    return start + (int) (d * t * t / 1000000);
                case EASE_OUT:
                    return start + (int) (d * (1000000 - (1000 - t) * (1000 - t)) / 1000000);
                case EASE_SMOOTH:
                    return start + (int) (d * t * t * (3000 - 2 * t) / 1000000000);
                case EASE_TANGENTS:
                    long m = w * tangentOf(key) / 1000;
                    long n = w * tangentOf(key + 1) / 1000;
                    return start + (int) riseByTangents(d, t, m, n);
                default:
                    return start;
            }
        }

        private static long riseByTangents(long d, long t, long m, long n) {
            long square = t * t;
            long cube = square * t;
            return (d * (3000 * square - 2 * cube)
                    + m * (cube - 2000 * square + 1000000 * t)
                    + n * (cube - 1000 * square)) / 1000000000;
        }
    }

    /** What undo brings back: all curves. */
    private static final class State {
        private final Curve[] curves;

        private State() {
            curves = new Curve[CURVES];
            for (int i = 0; i < CURVES; i++) {
                curves[i] = new Curve();
            }
        }

        private void become(State other) {
            for (int i = 0; i < CURVES; i++) {
                curves[i].become(other.curves[i]);
            }
        }
    }

    /** The curve text, and how it is read. */
    private static final class CurveText {
        private static final int FRAME_DIGITS = 3;
        private static final int VALUE_DIGITS = 4;

        private final byte[] bytes;
        private int length;
        // Where reading stands; where it fails, this is the syntax error position.
        private int at;

        private CurveText() {
            bytes = new byte[TEXT_BYTES];
            length = 0;
            at = 0;
        }

        private void add(int number) {
            if (length < TEXT_BYTES) {
                bytes[length] = (byte) number;
                length++;
            }
        }

        /** Reads the whole text; answers the syntax error position, or NONE. */
        private int readInto(Curve target) {
            target.count = 0;
            at = 0;
            for (int round = 0; round <= KEYS; round++) {
                if (at >= length) {
                    return NONE;
                }
                if (round == KEYS || !readKey(target)) {
                    return at;
                }
            }
            return NONE;
        }

        private boolean readKey(Curve target) {
            int start = at;
            int frame = readDigits(FRAME_DIGITS);
            if (frame == NONE || isSign(at, '0', '9')) {
                return false;
            }
            if (frame <= target.lastFrame()) {
                at = start;
                return false;
            }
            if (!skip(',')) {
                return false;
            }
            boolean negative = skip('-');
            int size = readDigits(VALUE_DIGITS);
            if (size == NONE || !skip(',') || !isSign(at, '0', '5')) {
                return false;
            }
            int ease = readDigits(1);
            int locked = skip('l') ? 1 : 0;
            int mode = readMode();
            if (!skip(';')) {
                return false;
            }
            target.insert(frame, negative ? -size : size, ease, mode, 0, locked);
            return true;
        }

        private int readMode() {
            if (skip('s')) {
                return MODE_SMOOTH;
            }
            return skip('v') ? MODE_LEVEL : MODE_BY_HAND;
        }

        /** The number that at most so many digits make, or NONE if there is no digit. */
        private int readDigits(int most) {
            if (!isSign(at, '0', '9')) {
                return NONE;
            }
            int number = 0;
            for (int i = 0; i < most && isSign(at, '0', '9'); i++) {
                number = number * 10 + bytes[at] - '0';
                at++;
            }
            return number;
        }

        private boolean skip(char sign) {
            if (!isSign(at, sign, sign)) {
                return false;
            }
            at++;
            return true;
        }

        private boolean isSign(int index, char least, char greatest) {
            return index >= 0 && index < length
                    && bytes[index] >= least && bytes[index] <= greatest;
        }
    }
}
