/**
 * The bounds of all parameters: the last allowed number on both sides is accepted, the first one
 * beyond it is refused with just the exception that the document names, and nothing is changed by
 * the call that throws. The scene's curve 0 has the keys 0 to 3, curve 1 has 16 keys, curve 2 is
 * empty, curve 3 has the keys 0 and 1.
 */
public final class BoundsTest {
    private static final Due due = new Due();

    /** A call with one argument that is tried. */
    private interface Trial {
        long on(EaseCurves x, int number);
    }

    public static void main(String[] args) {
        addKey();
        removeKey();
        setKey();
        moveKey();
        setTangent();
        lock();
        stretch();
        copy();
        reduce();
        key();
        value();
        sum();
        extreme();
        crossings();
        difference();
        mean();
        error();
        greatestStretch();
        leastEase();
        append();
        parse();
        due.end();
    }

    private static void bounds(String what, Class<? extends RuntimeException> want, int least,
            int greatest, Trial trial) {
        accepts(what, least, trial);
        accepts(what, greatest, trial);
        for (int beyond : new int[] {least - 1, greatest + 1, Integer.MIN_VALUE,
            Integer.MAX_VALUE}) {
            Scene.refuses(due, what + " " + beyond, want, BoundsTest::unlock,
                    x -> trial.on(x, beyond));
        }
    }

    private static void accepts(String what, int number, Trial trial) {
        EaseCurves x = Scene.make();
        unlock(x);
        try {
            trial.on(x, number);
        } catch (RuntimeException e) {
            due.miss(what + " " + number + " threw " + e + ", and is allowed");
        }
    }

    /** Locks are not what is tried here. */
    private static void unlock(EaseCurves x) {
        x.lock(0, 1, false);
        x.lock(3, 1, false);
    }

    private static void index(String what, int greatest, Trial trial) {
        bounds(what, Curves.INDEX, 0, greatest, trial);
    }

    private static void argument(String what, int least, int greatest, Trial trial) {
        bounds(what, Curves.ARGUMENT, least, greatest, trial);
    }

    // Promise 2
    private static void addKey() {
        index("addKey curve", 3, (x, n) -> x.addKey(n, 1, 0, 0));
        argument("addKey frame", 0, 999, (x, n) -> x.addKey(2, n, 0, 0));
        argument("addKey value", -9999, 9999, (x, n) -> x.addKey(3, 0, n, 0));
        argument("addKey ease", 0, 5, (x, n) -> x.addKey(3, 0, 0, n));
    }

    // Promise 3
    private static void removeKey() {
        index("removeKey curve", 3, (x, n) -> x.removeKey(n, 0));
        index("removeKey key", 3, (x, n) -> x.removeKey(0, n));
        index("removeKey key of 16", 15, (x, n) -> x.removeKey(1, n));
        none("removeKey of an empty curve", (x, n) -> x.removeKey(2, n));
    }

    // Promise 4
    private static void setKey() {
        index("setKey curve", 3, (x, n) -> x.setKey(n, 0, 1, 1));
        index("setKey key", 3, (x, n) -> x.setKey(0, n, 1, 1));
        index("setKey key of 16", 15, (x, n) -> x.setKey(1, n, 1, 1));
        none("setKey of an empty curve", (x, n) -> x.setKey(2, n, 1, 1));
        argument("setKey value", -9999, 9999, (x, n) -> x.setKey(0, 0, n, 1));
        argument("setKey ease", 0, 5, (x, n) -> x.setKey(0, 0, 1, n));
    }

    // Promise 5
    private static void moveKey() {
        index("moveKey curve", 3, (x, n) -> x.moveKey(n, 0, 1));
        index("moveKey key", 3, (x, n) -> x.moveKey(0, n, 1));
        index("moveKey key of 16", 15, (x, n) -> x.moveKey(1, n, 1));
        none("moveKey of an empty curve", (x, n) -> x.moveKey(2, n, 1));
        argument("moveKey frame", 0, 999, (x, n) -> x.moveKey(0, 0, n));
    }

    // Promise 6
    private static void setTangent() {
        index("setTangent curve", 3, (x, n) -> x.setTangent(n, 0, 1, 1));
        index("setTangent key", 3, (x, n) -> x.setTangent(0, n, 1, 1));
        index("setTangent key of 16", 15, (x, n) -> x.setTangent(1, n, 1, 1));
        none("setTangent of an empty curve", (x, n) -> x.setTangent(2, n, 1, 1));
        argument("setTangent mode", 0, 2, (x, n) -> x.setTangent(0, 0, n, 1));
        argument("setTangent slope", -99999, 99999, (x, n) -> x.setTangent(0, 0, 0, n));
    }

    // Promise 7
    private static void lock() {
        index("lock curve", 3, (x, n) -> x.lock(n, 0, true));
        index("lock key", 3, (x, n) -> x.lock(0, n, true));
        index("lock key of 16", 15, (x, n) -> x.lock(1, n, false));
        none("lock of an empty curve", (x, n) -> x.lock(2, n, true));
    }

    // Promise 8
    private static void stretch() {
        index("stretch curve", 3, (x, n) -> x.stretch(n, 0, 999, 100));
        argument("stretch from", 0, 998, (x, n) -> x.stretch(2, n, 999, 200));
        argument("stretch to", 501, 999, (x, n) -> x.stretch(2, 500, n, 200));
        argument("stretch to from 0", 1, 999, (x, n) -> x.stretch(2, 0, n, 200));
        argument("stretch to from 998", 999, 999, (x, n) -> x.stretch(2, 998, n, 200));
        argument("stretch percent", 10, 500, (x, n) -> x.stretch(2, 0, 999, n));
    }

    // Promise 9
    private static void copy() {
        index("copy curve", 3, (x, n) -> x.copy(n, 2, 5));
        index("copy source", 3, (x, n) -> x.copy(2, n, 0));
        argument("copy offset", -9999, 9999, (x, n) -> x.copy(1, 2, n));
    }

    // Promise 10
    private static void reduce() {
        index("reduce curve", 3, (x, n) -> x.reduce(n, 5));
        argument("reduce tolerance", 0, 9999, (x, n) -> x.reduce(1, n));
        argument("reduce tolerance, empty curve", 0, 9999, (x, n) -> x.reduce(2, n));
    }

    // Promise 11
    private static void key() {
        index("key curve", 3, (x, n) -> x.key(n, 0, 0));
        index("key curve, NONE", 3, (x, n) -> x.key(n, EaseCurves.NONE, 0));
        bounds("key key", Curves.INDEX, EaseCurves.NONE, 3, (x, n) -> x.key(0, n, 6));
        bounds("key key of 16", Curves.INDEX, EaseCurves.NONE, 15, (x, n) -> x.key(1, n, 6));
        bounds("key key of none", Curves.INDEX, EaseCurves.NONE, -1, (x, n) -> x.key(2, n, 6));
        argument("key what", 0, 6, (x, n) -> x.key(0, 3, n));
        argument("key what, NONE", 0, 6, (x, n) -> x.key(0, EaseCurves.NONE, n));
        argument("key what, NONE, empty curve", 0, 6, (x, n) -> x.key(2, EaseCurves.NONE, n));
    }

    // Promise 12
    private static void value() {
        index("value curve", 3, (x, n) -> x.value(n, 500));
        argument("value frame", 0, 999, (x, n) -> x.value(0, n));
        argument("value frame, empty curve", 0, 999, (x, n) -> x.value(2, n));
    }

    // Promise 13
    private static void sum() {
        index("sum curve", 3, (x, n) -> x.sum(n, 0, 999));
        argument("sum from", 0, 999, (x, n) -> x.sum(0, n, 999));
        argument("sum from, to 500", 0, 500, (x, n) -> x.sum(0, n, 500));
        argument("sum to", 500, 999, (x, n) -> x.sum(0, 500, n));
        argument("sum to from 0", 0, 999, (x, n) -> x.sum(0, 0, n));
        argument("sum to from 999", 999, 999, (x, n) -> x.sum(2, 999, n));
    }

    // Promise 14
    private static void extreme() {
        index("extreme curve", 3, (x, n) -> x.extreme(n, 0, 999, 0));
        argument("extreme from", 0, 999, (x, n) -> x.extreme(0, n, 999, 1));
        argument("extreme from, to 500", 0, 500, (x, n) -> x.extreme(0, n, 500, 2));
        argument("extreme to", 500, 999, (x, n) -> x.extreme(0, 500, n, 3));
        argument("extreme to from 0", 0, 999, (x, n) -> x.extreme(0, 0, n, 4));
        argument("extreme to from 999", 999, 999, (x, n) -> x.extreme(2, 999, n, 4));
        argument("extreme what", 0, 4, (x, n) -> x.extreme(0, 0, 999, n));
        argument("extreme what, one frame", 0, 4, (x, n) -> x.extreme(2, 999, 999, n));
    }

    // Promise 15
    private static void crossings() {
        index("crossings curve", 3, (x, n) -> x.crossings(n, 0));
        argument("crossings level", -99999, 99999, (x, n) -> x.crossings(0, n));
    }

    // Promise 16
    private static void difference() {
        index("difference curve", 3, (x, n) -> x.difference(n, 1));
        index("difference other", 3, (x, n) -> x.difference(1, n));
    }

    // Promise 17
    private static void mean() {
        index("mean curve", 3, (x, n) -> (long) x.mean(n));
    }

    // Promise 18
    private static void error() {
        index("error curve", 3, (x, n) -> x.error(n, 0));
        index("error key", 3, (x, n) -> x.error(0, n));
        index("error key of 16", 15, (x, n) -> x.error(1, n));
        none("error of an empty curve", (x, n) -> x.error(2, n));
    }

    // Promise 19
    private static void greatestStretch() {
        index("greatestStretch curve", 3, (x, n) -> x.greatestStretch(n, 0, 999));
        argument("greatestStretch from", 0, 998, (x, n) -> x.greatestStretch(0, n, 999));
        argument("greatestStretch to", 501, 999, (x, n) -> x.greatestStretch(0, 500, n));
        argument("greatestStretch to from 0", 1, 999, (x, n) -> x.greatestStretch(2, 0, n));
        argument("greatestStretch to from 998", 999, 999, (x, n) -> x.greatestStretch(0, 998, n));
    }

    // Promise 20
    private static void leastEase() {
        index("leastEase curve", 3, (x, n) -> x.leastEase(n, 0));
        index("leastEase key: the last one has no span", 2, (x, n) -> x.leastEase(0, n));
        index("leastEase key of 16", 14, (x, n) -> x.leastEase(1, n));
        none("leastEase of an empty curve", (x, n) -> x.leastEase(2, n));
    }

    // Promise 21
    private static void append() {
        argument("append value", 0, 127, (x, n) -> x.append(n));
    }

    // Promise 23
    private static void parse() {
        index("parse curve", 3, (x, n) -> x.parse(n));
    }

    /** No number is that of a key. */
    private static void none(String what, Trial trial) {
        for (int n : new int[] {-1, 0, 1, 15, Integer.MIN_VALUE, Integer.MAX_VALUE}) {
            Scene.refuses(due, what + " " + n, Curves.INDEX, x -> trial.on(x, n));
        }
    }
}
