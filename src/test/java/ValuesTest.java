/** Promises 12 to 17: what is told about the values of a curve. */
public final class ValuesTest {
    private static final Due due = new Due();

    public static void main(String[] args) {
        edges();
        eases();
        widestEases();
        tangents();
        valueRefuses();
        sum();
        extreme();
        crossings();
        difference();
        mean();
        due.end();
    }

    // Promise 12
    private static void edges() {
        EaseCurves x = new EaseCurves();
        due.same("without keys", x.value(0, 500), 0);
        x.addKey(0, 100, 42, 1);
        due.same("before the only key", x.value(0, 0), 42);
        due.same("at the only key", x.value(0, 100), 42);
        due.same("behind the only key", x.value(0, 999), 42);
        x.addKey(0, 110, 52, 1);
        due.same("before the first key", x.value(0, 99), 42);
        due.same("at the first key", x.value(0, 100), 42);
        due.same("behind the first key", x.value(0, 101), 43);
        due.same("before the last key", x.value(0, 109), 51);
        due.same("at the last key", x.value(0, 110), 52);
        due.same("behind the last key", x.value(0, 111), 52);
    }

    private static void eases() {
        // A span of 4 frames: t is 0, 250, 500, 750.
        long[][] wants = {
            {100, 100, 100, 100, 165}, {100, 116, 132, 148, 165}, {100, 104, 116, 136, 165},
            {100, 128, 148, 160, 165}, {100, 110, 132, 154, 165}, {100, 110, 132, 154, 165}};
        for (int ease = 0; ease <= 5; ease++) {
            EaseCurves x = new EaseCurves();
            x.addKey(2, 50, 100, ease);
            x.addKey(2, 54, 165, 0);
            for (int i = 0; i <= 4; i++) {
                due.same("ease " + ease + " at " + i, x.value(2, 50 + i), wants[ease][i]);
            }
        }
        EaseCurves down = Curves.linear(0, 0, 10, 3, 0);
        due.same("t is divided first: 10 - 10 * 333 / 1000", down.value(0, 1), 7);
        due.same("10 - 10 * 666 / 1000", down.value(0, 2), 4);
        down.setKey(0, 0, 10, 2);
        due.same("in, toward 0: 10 - 1", down.value(0, 1), 9);
        down.setKey(0, 0, 10, 3);
        due.same("out, toward 0: 10 - 5", down.value(0, 1), 5);
        down.setKey(0, 0, 10, 4);
        due.same("smooth, toward 0: 10 - 2", down.value(0, 1), 8);
    }

    /** From -9999 to 9999 over 999 frames, each value by the document's terms. */
    private static void widestEases() {
        for (int ease = 0; ease <= 4; ease++) {
            EaseCurves x = new EaseCurves();
            for (int f = 0; f < 999; f++) {
                if (f % 500 == 0) {
                    // An object is good for 512 calls.
                    x = new EaseCurves();
                    x.addKey(0, 0, -9999, ease);
                    x.addKey(0, 999, 9999, 0);
                }
                long t = 1000 * f / 999;
                long d = 19998;
                long[] more = {0, d * t / 1000, d * t * t / 1000000,
                    d * (1000000 - (1000 - t) * (1000 - t)) / 1000000,
                    d * t * t * (3000 - 2 * t) / 1000000000};
                due.same("ease " + ease + " at " + f, x.value(0, f), -9999 + more[ease]);
            }
        }
    }

    private static void tangents() {
        EaseCurves x = new EaseCurves();
        x.addKey(0, 0, 0, 5);
        x.addKey(0, 10, 0, 5);
        x.setTangent(0, 0, 0, 8000);
        // m = 80: at t = 500, 80 * (125 - 500 + 500) / 1000 = 10.
        due.same("by the slope of a", x.value(0, 5), 10);
        x.setTangent(0, 0, 0, 0);
        x.setTangent(0, 1, 0, 8000);
        // n = 80: at t = 500, 80 * (125 - 250) / 1000 = -10.
        due.same("by the slope of b", x.value(0, 5), -10);
        x.setTangent(0, 0, 0, 99);
        x.setTangent(0, 1, 0, 199);
        // m = 0 (990 / 1000) and n = 1: 1 * -0.125 goes toward 0.
        due.same("m and n are divided first", x.value(0, 5), 0);
        x.addKey(0, 20, 20, 5);
        x.setTangent(0, 0, 0, 0);
        x.setTangent(0, 1, 1, 0);
        // The tangent is 1000 * 20 / 20: n = 10 in the first span, m = 10 in the second.
        due.same("smooth, the span before", x.value(0, 5), -1);
        due.same("smooth, the span behind", x.value(0, 15), 11);
        x.setTangent(0, 1, 2, 0);
        due.same("level, the span before", x.value(0, 5), 0);
        due.same("level, the span behind", x.value(0, 15), 10);
        EaseCurves far = new EaseCurves();
        far.addKey(3, 0, -9999, 5);
        far.addKey(3, 999, 9999, 5);
        far.setTangent(3, 0, 0, 99999);
        far.setTangent(3, 1, 0, -99999);
        due.same("beyond the greatest value of a key", far.value(3, 500), 24974);
    }

    private static void valueRefuses() {
        EaseCurves x = Curves.linear(0, 5, 5);
        due.refused("curve 4", x, Curves.INDEX, () -> x.value(4, 1000));
        due.refused("curve -1", x, Curves.INDEX, () -> x.value(-1, 0));
        due.refused("frame -1", x, Curves.ARGUMENT, () -> x.value(0, -1));
        due.refused("frame 1000", x, Curves.ARGUMENT, () -> x.value(0, 1000));
    }

    // Promise 13
    private static void sum() {
        EaseCurves x = Curves.linear(0, 10, 0, 20, 10);
        due.same("ends included", x.sum(0, 11, 13), 1 + 2 + 3);
        due.same("one frame", x.sum(0, 15, 15), 5);
        due.same("before the keys", x.sum(0, 0, 10), 0);
        due.same("over all", x.sum(0, 0, 999), 45 + 980 * 10);
        due.same("behind the keys", x.sum(0, 998, 999), 20);
        due.same("without keys", x.sum(1, 0, 999), 0);
        x.addKey(2, 0, -9999, 0);
        due.same("the least sum", x.sum(2, 0, 999), -9999000);
        due.refused("curve 4", x, Curves.INDEX, () -> x.sum(4, -1, 0));
        due.refused("from -1", x, Curves.ARGUMENT, () -> x.sum(0, -1, 5));
        due.refused("from 1000", x, Curves.ARGUMENT, () -> x.sum(0, 1000, 1000));
        due.refused("to 1000", x, Curves.ARGUMENT, () -> x.sum(0, 0, 1000));
        due.refused("to less than from", x, Curves.ARGUMENT, () -> x.sum(0, 5, 4));
    }

    // Promise 14
    private static void extreme() {
        EaseCurves x = Curves.linear(0, 10, 5, 20, 25, 30, -5, 40, 25);
        due.same("greatest", x.extreme(0, 0, 999, 0), 25);
        due.same("first frame with it", x.extreme(0, 0, 999, 1), 20);
        due.same("smallest", x.extreme(0, 0, 999, 2), -5);
        due.same("first frame with it", x.extreme(0, 0, 999, 3), 30);
        due.same("greatest step", x.extreme(0, 0, 999, 4), 3);
        due.same("greatest step, down", x.extreme(0, 0, 30, 4), 3);
        due.same("the greatest value at the end", x.extreme(0, 10, 20, 1), 20);
        due.same("the smallest value at the end", x.extreme(0, 20, 30, 3), 30);
        due.same("the greatest value of two frames", x.extreme(0, 15, 16, 1), 16);
        due.same("the smallest value of two frames", x.extreme(0, 25, 26, 3), 26);
        due.same("the step of two frames, up", x.extreme(0, 15, 16, 4), 2);
        due.same("the step of two frames, down", x.extreme(0, 25, 26, 4), 3);
        due.same("greatest in a part", x.extreme(0, 22, 38, 0), 19);
        due.same("its frame", x.extreme(0, 22, 38, 1), 22);
        due.same("smallest in a part", x.extreme(0, 0, 15, 2), 5);
        due.same("its frame", x.extreme(0, 3, 15, 3), 3);
        due.same("greatest of equal ones", x.extreme(0, 40, 999, 1), 40);
        due.same("step in a part", x.extreme(0, 10, 20, 4), 2);
        due.same("step over two frames", x.extreme(0, 9, 10, 4), 0);
        due.same("greatest of one frame", x.extreme(0, 999, 999, 0), 25);
        due.same("its frame", x.extreme(0, 999, 999, 1), 999);
        due.same("smallest of one frame", x.extreme(0, 30, 30, 2), -5);
        due.same("step of one frame", x.extreme(0, 25, 25, 4), 0);
        due.same("without keys", x.extreme(1, 7, 9, 1), 7);
        due.refused("curve 4", x, Curves.INDEX, () -> x.extreme(4, -1, 0, 5));
        due.refused("from -1", x, Curves.ARGUMENT, () -> x.extreme(0, -1, 5, 0));
        due.refused("to 1000", x, Curves.ARGUMENT, () -> x.extreme(0, 0, 1000, 0));
        due.refused("to less than from", x, Curves.ARGUMENT, () -> x.extreme(0, 5, 4, 0));
        due.refused("what 5", x, Curves.ARGUMENT, () -> x.extreme(0, 5, 5, 5));
        due.refused("what -1", x, Curves.ARGUMENT, () -> x.extreme(0, 5, 5, -1));
    }

    // Promise 15
    private static void crossings() {
        EaseCurves x = Curves.linear(0, 10, 5, 20, 25, 30, -5, 40, 25);
        due.same("up, down, up", x.crossings(0, 10), 3);
        due.same("at the start value: the level is reached from the start", x.crossings(0, 5), 2);
        due.same("at the top", x.crossings(0, 25), 3);
        due.same("at the bottom", x.crossings(0, -5), 0);
        due.same("above all", x.crossings(0, 99999), 0);
        due.same("below all", x.crossings(0, -99999), 0);
        EaseCurves first = Curves.linear(0, 0, 0, 1, 1);
        due.same("at frame 1", first.crossings(0, 1), 1);
        EaseCurves last = Curves.linear(0, 998, 1, 999, 0);
        due.same("at frame 999", last.crossings(0, 1), 1);
        due.refused("curve 4", x, Curves.INDEX, () -> x.crossings(4, 100000));
        due.refused("level 100000", x, Curves.ARGUMENT, () -> x.crossings(0, 100000));
        due.refused("level -100000", x, Curves.ARGUMENT, () -> x.crossings(0, -100000));
    }

    // Promise 16
    private static void difference() {
        EaseCurves x = Curves.linear(0, 0, 0, 999, 999);
        x.addKey(1, 999, 5, 1);
        due.same("at the last frame", x.difference(0, 1), 994);
        due.same("the other way", x.difference(1, 0), 994);
        due.same("to itself", x.difference(0, 0), 0);
        due.same("to an empty one", x.difference(2, 0), 999);
        x.setKey(1, 0, 1200, 1);
        due.same("behind it nothing is as far", x.difference(0, 1), 1200);
        EaseCurves first = Curves.linear(0, 0, 7, 1, 0);
        due.same("at the first frame", first.difference(0, 1), 7);
        due.same("at the first frame, the other way", first.difference(1, 0), 7);
        due.refused("curve 4", x, Curves.INDEX, () -> x.difference(4, 0));
        due.refused("other 4", x, Curves.INDEX, () -> x.difference(0, 4));
        due.refused("other -1", x, Curves.INDEX, () -> x.difference(0, -1));
    }

    // Promise 17
    private static void mean() {
        EaseCurves x = Curves.linear(0, 0, 0, 500, 500);
        due.same("of a ramp", x.mean(0), (499 * 500 / 2 + 500 * 500) / 1000.0);
        due.same("without keys", x.mean(3), 0.0);
        x.addKey(1, 998, 0, 0);
        x.addKey(1, 999, -7, 0);
        due.same("below 0", x.mean(1), -7 / 1000.0);
        x.addKey(2, 0, 7, 0);
        x.addKey(2, 1, 0, 0);
        due.same("of the first frame", x.mean(2), 7 / 1000.0);
        due.refused("curve 4", x, Curves.INDEX, () -> (long) x.mean(4));
        due.refused("curve -1", x, Curves.INDEX, () -> (long) x.mean(-1));
    }
}
