import java.util.ArrayDeque;
import java.util.ArrayList;
import java.util.List;
import java.util.TreeMap;
import java.util.regex.Matcher;
import java.util.regex.Pattern;

/**
 * The document once more, written without a thought of speed or room and unlike the class under
 * test, so that a slip in one of them shows as a difference. Only the tests use it.
 */
public final class Model {
    private record Key(int value, int ease, int mode, int slope, boolean locked) {
        Key at(int v, int e) {
            return new Key(v, e, mode, slope, locked);
        }
    }

    /** A curve: its keys by their frames. */
    private static final class Line extends TreeMap<Integer, Key> {
        private static final long serialVersionUID = 1;

        Line() {
        }

        Line(Line other) {
            super(other);
        }

        int frameOf(int key) {
            return new ArrayList<>(keySet()).get(key);
        }

        int numberOf(int frame) {
            return headMap(frame).size();
        }

        boolean anyLocked() {
            return values().stream().anyMatch(Key::locked);
        }
    }

    private static final Pattern TEXT =
            Pattern.compile("([0-9]{1,3},-?[0-9]{1,4},[0-5]l?[sv]?;){0,16}");
    private static final Pattern ONE =
            Pattern.compile("([0-9]+),(-?[0-9]+),([0-5])(l?)([sv]?);");

    private List<Line> lines = new ArrayList<>();
    private final ArrayDeque<List<Line>> states = new ArrayDeque<>();
    private String text = "";

    public Model() {
        for (int i = 0; i < 4; i++) {
            lines.add(new Line());
        }
    }

    private static void index(boolean good) {
        if (!good) {
            throw new IndexOutOfBoundsException();
        }
    }

    private static void argument(boolean good) {
        if (!good) {
            throw new IllegalArgumentException();
        }
    }

    private static void state(boolean good) {
        if (!good) {
            throw new IllegalStateException();
        }
    }

    private static boolean in(int n, int low, int high) {
        return low <= n && n <= high;
    }

    private Line line(int curve) {
        index(in(curve, 0, 3));
        return lines.get(curve);
    }

    private Line lineWith(int curve, int key) {
        Line line = line(curve);
        index(in(key, 0, line.size() - 1));
        return line;
    }

    private void save() {
        List<Line> kept = new ArrayList<>();
        for (Line line : lines) {
            kept.add(new Line(line));
        }
        states.push(kept);
        if (states.size() > 4) {
            states.removeLast();
        }
    }

    // ---- what a curve answers

    private static int tangent(Line line, int frame) {
        Key k = line.get(frame);
        if (k.mode == 0) {
            return k.slope;
        }
        if (frame == line.firstKey() || frame == line.lastKey()) {
            return 0;
        }
        var p = line.lowerEntry(frame);
        var q = line.higherEntry(frame);
        int vp = p.getValue().value;
        int vq = q.getValue().value;
        if (k.mode == 2 && (Math.max(vp, vq) <= k.value || Math.min(vp, vq) >= k.value)) {
            return 0;
        }
        return 1000 * (vq - vp) / (q.getKey() - p.getKey());
    }

    private static int at(Line line, int f) {
        if (line.isEmpty()) {
            return 0;
        }
        var a = line.floorEntry(f);
        var b = line.higherEntry(f);
        if (a == null) {
            return line.firstEntry().getValue().value;
        }
        if (b == null) {
            return line.lastEntry().getValue().value;
        }
        long w = b.getKey() - a.getKey();
        long t = 1000L * (f - a.getKey()) / w;
        long d = b.getValue().value - a.getValue().value;
        long m = w * tangent(line, a.getKey()) / 1000;
        long n = w * tangent(line, b.getKey()) / 1000;
        long more = switch (a.getValue().ease) {
            case 0 -> 0;
            case 1 -> d * t / 1000;
            case 2 -> d * t * t / 1000000;
            case 3 -> d * (1000000 - (1000 - t) * (1000 - t)) / 1000000;
            case 4 -> d * t * t * (3000 - 2 * t) / 1000000000;
            default -> (d * (3000 * t * t - 2 * t * t * t)
                    + m * (t * t * t - 2000 * t * t + 1000000 * t)
                    + n * (t * t * t - 1000 * t * t)) / 1000000000;
        };
        return (int) (a.getValue().value + more);
    }

    private static int apart(Line one, Line other) {
        int most = 0;
        for (int f = 0; f <= 999; f++) {
            most = Math.max(most, Math.abs(at(one, f) - at(other, f)));
        }
        return most;
    }

    private static int errorOf(Line line, int frame) {
        if (line.get(frame).locked || frame == line.firstKey() || frame == line.lastKey()) {
            return -1;
        }
        Line without = new Line(line);
        without.remove(frame);
        return apart(line, without);
    }

    /** The stretched curve, or null if it is not possible. */
    private static Line stretched(Line line, int x, int y, int p) {
        Line result = new Line();
        int g = (y - x) * p / 100 - (y - x);
        for (var entry : line.entrySet()) {
            int f = entry.getKey();
            int moved = f < x ? f : f <= y ? x + (f - x) * p / 100 : f + g;
            if (moved > 999 || (moved != f && entry.getValue().locked)
                    || result.put(moved, entry.getValue()) != null) {
                return null;
            }
        }
        return result;
    }

    // ---- the face

    public int addKey(int curve, int frame, int value, int ease) {
        Line line = line(curve);
        argument(in(frame, 0, 999) && in(value, -9999, 9999) && in(ease, 0, 5));
        state(line.size() < 16 && !line.containsKey(frame));
        save();
        line.put(frame, new Key(value, ease, 0, 0, false));
        return line.numberOf(frame);
    }

    public int removeKey(int curve, int key) {
        Line line = lineWith(curve, key);
        state(!line.get(line.frameOf(key)).locked);
        save();
        line.remove(line.frameOf(key));
        return line.size();
    }

    public int setKey(int curve, int key, int value, int ease) {
        Line line = lineWith(curve, key);
        argument(in(value, -9999, 9999) && in(ease, 0, 5));
        Key k = line.get(line.frameOf(key));
        state(!k.locked);
        save();
        line.put(line.frameOf(key), k.at(value, ease));
        return k.value;
    }

    public int moveKey(int curve, int key, int frame) {
        Line line = lineWith(curve, key);
        argument(in(frame, 0, 999));
        int old = line.frameOf(key);
        state(!line.get(old).locked && (frame == old || !line.containsKey(frame)));
        save();
        Key k = line.remove(old);
        line.put(frame, k);
        return line.numberOf(frame);
    }

    public int setTangent(int curve, int key, int mode, int slope) {
        Line line = lineWith(curve, key);
        argument(in(mode, 0, 2) && in(slope, -99999, 99999));
        int frame = line.frameOf(key);
        Key k = line.get(frame);
        state(!k.locked);
        save();
        int had = tangent(line, frame);
        line.put(frame, new Key(k.value, k.ease, mode, slope, false));
        return had;
    }

    public int lock(int curve, int key, boolean locked) {
        Line line = lineWith(curve, key);
        save();
        int frame = line.frameOf(key);
        Key k = line.get(frame);
        line.put(frame, new Key(k.value, k.ease, k.mode, k.slope, locked));
        return k.locked ? 1 : 0;
    }

    public int stretch(int curve, int from, int to, int percent) {
        Line line = line(curve);
        argument(in(from, 0, 998) && to > from && to <= 999 && in(percent, 10, 500));
        Line result = stretched(line, from, to, percent);
        state(result != null);
        save();
        lines.set(curve, result);
        int others = 0;
        for (int key = 0; key < line.size(); key++) {
            others += line.frameOf(key) == result.frameOf(key) ? 0 : 1;
        }
        return others;
    }

    public int copy(int curve, int source, int offset) {
        Line line = line(curve);
        Line from = line(source);
        argument(in(offset, -9999, 9999));
        Line result = new Line();
        boolean good = !line.anyLocked();
        for (var entry : from.entrySet()) {
            Key k = entry.getValue();
            good &= in(k.value + offset, -9999, 9999);
            result.put(entry.getKey(), k.at(k.value + offset, k.ease));
        }
        state(good);
        save();
        lines.set(curve, result);
        return result.size();
    }

    public int reduce(int curve, int tolerance) {
        Line line = line(curve);
        argument(in(tolerance, 0, 9999));
        save();
        int before = line.size();
        while (true) {
            int best = -1;
            int least = Integer.MAX_VALUE;
            for (int frame : line.keySet()) {
                int error = errorOf(line, frame);
                if (error >= 0 && error <= tolerance && error < least) {
                    best = frame;
                    least = error;
                }
            }
            if (best < 0) {
                return before - line.size();
            }
            line.remove(best);
        }
    }

    public int key(int curve, int key, int what) {
        Line line = key == -1 ? line(curve) : lineWith(curve, key);
        argument(in(what, 0, 6));
        if (key == -1) {
            return line.size();
        }
        int frame = line.frameOf(key);
        Key k = line.get(frame);
        int[] all = {frame, k.value, k.ease, k.mode, k.slope, tangent(line, frame),
            k.locked ? 1 : 0};
        return all[what];
    }

    public int value(int curve, int frame) {
        Line line = line(curve);
        argument(in(frame, 0, 999));
        return at(line, frame);
    }

    public long sum(int curve, int from, int to) {
        Line line = line(curve);
        argument(from >= 0 && to >= from && to <= 999);
        long total = 0;
        for (int f = from; f <= to; f++) {
            total += at(line, f);
        }
        return total;
    }

    public int extreme(int curve, int from, int to, int what) {
        Line line = line(curve);
        argument(from >= 0 && to >= from && to <= 999 && in(what, 0, 4));
        TreeMap<Integer, Integer> firstFrames = new TreeMap<>();
        int step = 0;
        for (int f = from; f <= to; f++) {
            firstFrames.putIfAbsent(at(line, f), f);
            step = Math.max(step, f == from ? 0 : Math.abs(at(line, f) - at(line, f - 1)));
        }
        return switch (what) {
            case 0 -> firstFrames.lastKey();
            case 1 -> firstFrames.lastEntry().getValue();
            case 2 -> firstFrames.firstKey();
            case 3 -> firstFrames.firstEntry().getValue();
            default -> step;
        };
    }

    public int crossings(int curve, int level) {
        Line line = line(curve);
        argument(in(level, -99999, 99999));
        int count = 0;
        for (int f = 1; f <= 999; f++) {
            boolean up = at(line, f) >= level && at(line, f - 1) < level;
            boolean down = at(line, f) < level && at(line, f - 1) >= level;
            count += up || down ? 1 : 0;
        }
        return count;
    }

    public int difference(int curve, int other) {
        return apart(line(curve), line(other));
    }

    public double mean(int curve) {
        line(curve);
        return (double) sum(curve, 0, 999) / 1000.0;
    }

    public int error(int curve, int key) {
        Line line = lineWith(curve, key);
        return errorOf(line, line.frameOf(key));
    }

    public int greatestStretch(int curve, int from, int to) {
        Line line = line(curve);
        argument(in(from, 0, 998) && to > from && to <= 999);
        int p = 500;
        while (stretched(line, from, to, p) == null) {
            p -= 10;
        }
        return p;
    }

    public int leastEase(int curve, int key) {
        Line line = lineWith(curve, key);
        index(key < line.size() - 1);
        TreeMap<Long, Integer> eases = new TreeMap<>();
        int frame = line.frameOf(key);
        for (int ease = 0; ease <= 5; ease++) {
            Line other = new Line(line);
            other.put(frame, line.get(frame).at(line.get(frame).value, ease));
            long total = 0;
            for (int f = frame; f <= line.frameOf(key + 1); f++) {
                total += at(other, f);
            }
            eases.putIfAbsent(total, ease);
        }
        return eases.firstEntry().getValue();
    }

    public int append(int value) {
        argument(in(value, 0, 127));
        state(text.length() < 150);
        text += (char) value;
        return text.length();
    }

    public int clearText() {
        int had = text.length();
        text = "";
        return had;
    }

    /** The first place at which no text that goes on could be right, its frames aside. */
    private int badByte() {
        for (int end = 1; end <= text.length(); end++) {
            Matcher m = TEXT.matcher(text.substring(0, end));
            if (!m.matches() && !m.hitEnd()) {
                return end - 1;
            }
        }
        return TEXT.matcher(text).matches() ? -1 : text.length();
    }

    /** The first digit of a frame that is not greater than the one before, if it is found. */
    private int badFrame(int bad) {
        int before = -1;
        int start = 0;
        int keys = 0;
        while (start < text.length() && keys < 16) {
            int end = start;
            while (end < text.length() && Character.isDigit(text.charAt(end))) {
                end++;
            }
            if (end == start || end > start + 3 || (bad >= 0 && bad < end)) {
                return -1;
            }
            int frame = Integer.parseInt(text.substring(start, end));
            if (frame <= before) {
                return start;
            }
            before = frame;
            int close = text.indexOf(';', end);
            if (close < 0 || (bad >= 0 && bad <= close)) {
                return -1;
            }
            start = close + 1;
            keys++;
        }
        return -1;
    }

    public int parse(int curve) {
        Line line = line(curve);
        int bad = badByte();
        int frame = badFrame(bad);
        if (frame >= 0 || bad >= 0) {
            return -10 - (frame >= 0 ? frame : bad);
        }
        state(!line.anyLocked());
        save();
        Line result = new Line();
        Matcher m = ONE.matcher(text);
        while (m.find()) {
            result.put(Integer.parseInt(m.group(1)), new Key(Integer.parseInt(m.group(2)),
                    Integer.parseInt(m.group(3)), " sv".indexOf((m.group(5) + " ").charAt(0)), 0,
                    !m.group(4).isEmpty()));
        }
        lines.set(curve, result);
        return result.size();
    }

    public int undo() {
        state(!states.isEmpty());
        lines = states.pop();
        return states.size();
    }

    public long digest() {
        long h = 31L * 3323 + text.length();
        for (int c = 0; c < 4; c++) {
            Line line = lines.get(c);
            h = 31 * h + line.size();
            for (int k = 0; k < line.size(); k++) {
                for (int what = 0; what <= 6; what++) {
                    h = 31 * h + key(c, k, what);
                }
            }
            for (int f = 0; f <= 999; f += 37) {
                h = 31 * h + at(line, f);
            }
        }
        return 31 * h + states.size();
    }
}
