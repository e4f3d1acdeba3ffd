import java.math.BigInteger;

/**
 * The boundary cases of "Curves and keys", "Tangents" and "Value of a curve" in the description,
 * sentence by sentence.
 */
public final class DescriptionTest {
    private static final Due due = new Due();

    public static void main(String[] args) {
        fourCurves();
        sixteenKeys();
        ascendingFrames();
        differentFrames();
        widestKeys();
        addedKeysArePlain();
        tangentByHand();
        tangentAtBothEnds();
        endsThatChange();
        tangentBetween();
        turns();
        valueWithoutKeys();
        valueOutsideTheKeys();
        valueAtKeys();
        easesByTheirFormulas();
        divisionTowardZero();
        oneDivisionAtTheEnd();
        lastCall();
        due.end();
    }

    private static void same(String what, EaseCurves x, int curve, String keys) {
        Curves.sameKeys(due, what, x, curve, keys);
    }

    // "There are 4 curves, numbered 0 to 3."
    private static void fourCurves() {
        EaseCurves x = new EaseCurves();
        for (int c = 0; c < 4; c++) {
            x.addKey(c, 100 + c, 10 * c, c);
        }
        for (int c = 0; c < 4; c++) {
            same("curve " + c, x, c, (100 + c) + "," + 10 * c + "," + c + ",0,0,0,0;");
        }
    }

    // "A curve has at most 16 keys [..]; initially none."
    private static void sixteenKeys() {
        EaseCurves x = new EaseCurves();
        for (int c = 0; c < 4; c++) {
            int curve = c;
            due.same("keys of a new curve", x.key(c, EaseCurves.NONE, 0), 0);
            for (int i = 0; i < 16; i++) {
                due.same("a key behind the others", x.addKey(c, 60 * i, 0, 0), i);
            }
            due.refused("a 17th key", x, Curves.STATE, () -> x.addKey(curve, 999, 0, 0));
            due.same("16 keys", x.key(c, EaseCurves.NONE, 0), 16);
        }
        due.same("15 keys", x.removeKey(2, 0), 15);
        due.same("room for one more", x.addKey(2, 999, 0, 0), 15);
        due.refused("and no more", x, Curves.STATE, () -> x.addKey(2, 0, 0, 0));
    }

    // "in ascending order of their frames, numbered from 0 in this order"
    private static void ascendingFrames() {
        EaseCurves x = new EaseCurves();
        int[] frames = {500, 999, 0, 499, 501, 998, 1};
        int[] numbers = {0, 1, 0, 1, 3, 4, 1};
        for (int i = 0; i < frames.length; i++) {
            due.same("number of " + frames[i], x.addKey(0, frames[i], frames[i], 0), numbers[i]);
        }
        int[] order = {0, 1, 499, 500, 501, 998, 999};
        for (int k = 0; k < order.length; k++) {
            due.same("frame of key " + k, x.key(0, k, 0), order[k]);
            due.same("value of key " + k, x.key(0, k, 1), order[k]);
        }
    }

    // "a frame [..], different for all keys of a curve"
    private static void differentFrames() {
        EaseCurves x = new EaseCurves();
        for (int c = 0; c < 4; c++) {
            due.same("the same frame in another curve", x.addKey(c, 7, 0, 0), 0);
        }
        due.refused("the same frame", x, Curves.STATE, () -> x.addKey(0, 7, 1, 1));
        x.moveKey(0, 0, 8);
        due.same("a frame that a key has left", x.addKey(0, 7, 1, 1), 0);
        x.removeKey(0, 1);
        due.same("the frame of a key that was removed", x.addKey(0, 8, 2, 2), 1);
        x.undo();
        due.same("the frame of a key that was undone", x.addKey(0, 8, 3, 3), 1);
        x.addKey(1, 0, 0, 0);
        x.addKey(1, 999, 0, 0);
        due.refused("frame 0 twice", x, Curves.STATE, () -> x.addKey(1, 0, 0, 0));
        due.refused("frame 999 twice", x, Curves.STATE, () -> x.addKey(1, 999, 0, 0));
    }

    // "A key has a frame, 0 to 999 [..] a slope, -99999 to 99999 [..]; and is locked or not."
    private static void widestKeys() {
        EaseCurves x = new EaseCurves();
        x.addKey(0, 0, -9999, 0);
        x.addKey(0, 999, 9999, 5);
        x.setTangent(0, 0, 0, -99999);
        x.setTangent(0, 1, 2, 99999);
        x.lock(0, 1, true);
        same("widest keys", x, 0, "0,-9999,0,0,-99999,-99999,0;999,9999,5,2,99999,0,1;");
        x.setKey(0, 0, 9999, 5);
        x.setTangent(0, 0, 2, 99999);
        x.moveKey(0, 0, 998);
        same("the other side", x, 0, "998,9999,5,2,99999,0,0;999,9999,5,2,99999,0,1;");
    }

    // "A key that is added has the tangent mode 0 and the slope 0, and is not locked."
    private static void addedKeysArePlain() {
        String plain = "5,1,1,0,0,0,0;";
        EaseCurves x = Curves.linear(0, 5, 1);
        x.setTangent(0, 0, 2, 500);
        x.removeKey(0, 0);
        x.addKey(0, 5, 1, 1);
        same("where a key with a slope was", x, 0, plain);
        x.setTangent(0, 0, 1, -500);
        x.lock(0, 0, true);
        x.undo();
        x.undo();
        x.undo();
        x.addKey(0, 5, 1, 1);
        same("where a locked key was", x, 0, plain);
        EaseCurves y = Curves.read("1,1,1ls;2,2,2lv;3,3,3lv;");
        y.undo();
        y.addKey(0, 5, 1, 1);
        same("where read keys were", y, 0, plain);
        EaseCurves z = Curves.read("1,1,1ls;9,2,2lv;");
        z.addKey(0, 5, 1, 1);
        due.same("mode between others", z.key(0, 1, 3), 0);
        due.same("slope between others", z.key(0, 1, 4), 0);
        due.same("lock between others", z.key(0, 1, 6), 0);
    }

    // "With the mode 0 the tangent of a key is its slope."
    private static void tangentByHand() {
        EaseCurves x = Curves.linear(0, 0, -9999, 500, 0, 999, 9999);
        for (int key = 0; key < 3; key++) {
            for (int slope : new int[] {-99999, -1, 0, 1, 99999}) {
                x.setTangent(0, key, 0, slope);
                due.same("tangent of key " + key, x.key(0, key, 5), slope);
            }
        }
    }

    // "With the modes 1 and 2 it is 0 for the first and the last key of a curve"
    private static void tangentAtBothEnds() {
        for (int mode = 1; mode <= 2; mode++) {
            for (int count = 1; count <= 16; count++) {
                EaseCurves x = new EaseCurves();
                for (int i = 0; i < count; i++) {
                    x.addKey(0, 60 * i, 60 * i, 1);
                    x.setTangent(0, i, mode, 99999);
                }
                String what = "mode " + mode + ", " + count + " keys, ";
                due.same(what + "first", x.key(0, 0, 5), 0);
                due.same(what + "last", x.key(0, count - 1, 5), 0);
                for (int i = 1; i < count - 1; i++) {
                    due.same(what + "between", x.key(0, i, 5), 1000);
                }
            }
        }
    }

    private static void endsThatChange() {
        EaseCurves x = Curves.read("10,10,5s;20,20,5v;30,30,5s;");
        due.same("between", x.key(0, 1, 5), 1000);
        x.removeKey(0, 0);
        due.same("the first one now", x.key(0, 0, 5), 0);
        x.addKey(0, 0, 0, 0);
        due.same("between again", x.key(0, 1, 5), 1000);
        x.moveKey(0, 1, 999);
        due.same("the last one now", x.key(0, 2, 5), 0);
        due.same("no more the last one", x.key(0, 1, 5), 1000 * (20 - 0) / 999);
    }

    // "1000 * (value of q - value of p) / (frame of q - frame of p)"
    private static void tangentBetween() {
        int[][] rows = {
            {0, -9999, 2, 9999, 9999000}, {0, 9999, 2, -9999, -9999000},
            {997, -9999, 999, 9999, 9999000}, {0, -9999, 999, 9999, 20018},
            {0, 9999, 999, -9999, -20018}, {0, 0, 999, 1, 1}, {0, 0, 999, -1, -1},
            {0, 1, 999, 0, -1}, {0, -2, 3, 0, 666}, {0, 2, 3, 0, -666}, {5, 7, 900, 7, 0}};
        for (int[] row : rows) {
            for (int mode = 1; mode <= 2; mode++) {
                EaseCurves x = Curves.linear(0, row[0], row[1], row[2], row[3]);
                // Halfway between, so that it is no turn, if there is a value between.
                int middle = row[1] + (row[3] - row[1]) / 2;
                boolean turn = middle == row[1] || middle == row[3];
                int key = x.addKey(0, row[0] + 1, middle, 1);
                x.setTangent(0, key, mode, 4);
                due.same("mode " + mode + " from " + row[1] + " to " + row[3],
                        x.key(0, 1, 5), mode == 2 && turn ? 0 : row[4]);
            }
        }
    }

    // "0 if neither of the values of p and q is greater than that of the key, or neither is less
    // (a turn; equal values count so)": all but the two orders that go on.
    private static void turns() {
        for (int p = -1; p <= 1; p++) {
            for (int here = -1; here <= 1; here++) {
                for (int q = -1; q <= 1; q++) {
                    EaseCurves x = Curves.linear(0, 0, p, 1, here, 4, q);
                    x.setTangent(0, 1, 2, 77);
                    int tangent = 0;
                    if (p == -1 && here == 0 && q == 1) {
                        tangent = 500;
                    } else if (p == 1 && here == 0 && q == -1) {
                        tangent = -500;
                    }
                    String what = p + ", " + here + ", " + q;
                    due.same("level at " + what, x.key(0, 1, 5), tangent);
                    x.setTangent(0, 1, 1, 77);
                    due.same("smooth at " + what, x.key(0, 1, 5), 250 * (q - p));
                }
            }
        }
    }

    // "Without keys it is 0"
    private static void valueWithoutKeys() {
        EaseCurves x = Curves.linear(0, 0, 5, 999, 9);
        for (int f : new int[] {0, 1, 500, 998, 999}) {
            due.same("never had keys", x.value(1, f), 0);
        }
        x.removeKey(0, 0);
        due.same("has a key", x.value(0, 0), 9);
        x.removeKey(0, 0);
        due.same("has no more keys", x.value(0, 0), 0);
        due.same("has no more keys", x.value(0, 999), 0);
    }

    // "before the first key it is the value of that key; at the last key and behind it, the value
    // of the last key"
    private static void valueOutsideTheKeys() {
        for (int ease = 0; ease <= 5; ease++) {
            EaseCurves one = new EaseCurves();
            one.addKey(0, 500, -7, ease);
            one.setTangent(0, 0, 0, 99999);
            EaseCurves two = new EaseCurves();
            two.addKey(0, 500, -7, ease);
            two.addKey(0, 600, 8, ease);
            two.setTangent(0, 0, 0, 99999);
            two.setTangent(0, 1, 0, 99999);
            String what = "ease " + ease;
            for (int f : new int[] {0, 498, 499, 500}) {
                due.same(what + " up to the only key", one.value(0, f), -7);
                due.same(what + " up to the first key", two.value(0, f), -7);
            }
            for (int f : new int[] {600, 601, 999}) {
                due.same(what + " behind the only key", one.value(0, f), -7);
                due.same(what + " from the last key", two.value(0, f), 8);
            }
        }
        EaseCurves ends = Curves.linear(0, 0, 3, 999, 4);
        due.same("the first key at 0", ends.value(0, 0), 3);
        due.same("the last key at 999", ends.value(0, 999), 4);
        due.same("before the last key", ends.value(0, 998), 3);
    }

    // "let a be the last key with a frame of at most f": at its frame its value, also in spans
    // without frames between.
    private static void valueAtKeys() {
        int[] frames = {0, 1, 2, 500, 997, 998, 999};
        for (int ease = 0; ease <= 5; ease++) {
            EaseCurves x = new EaseCurves();
            for (int i = 0; i < frames.length; i++) {
                x.addKey(0, frames[i], i % 2 == 0 ? 9999 : -9999, ease);
                x.setTangent(0, i, 0, i % 2 == 0 ? -99999 : 99999);
            }
            for (int i = 0; i < frames.length; i++) {
                due.same("ease " + ease + " at frame " + frames[i], x.value(0, frames[i]),
                        i % 2 == 0 ? 9999 : -9999);
            }
        }
    }

    // "By the ease of a, the value is the value of a plus: [..] (All numbers on the way fit into
    // a long.)": each ease at both ends of the span and in the middle, by numbers of any size.
    private static void easesByTheirFormulas() {
        // Of 19990, 15000 and 11768 some parts lie at the very end of a whole number.
        int[][] values = {{-9999, 9999}, {9999, -9999}, {0, 1}, {0, -1}, {3, -4}, {5, 5},
            {-9999, 9991}, {-7500, 7500}, {-9999, 1769}};
        int[][] tangents = {{0, 0}, {99999, -99999}, {-99999, 99999}, {99999, 99999}, {1, -1}};
        for (int w : new int[] {2, 3, 7, 9, 27, 998, 999}) {
            for (int[] v : values) {
                for (int[] slopes : tangents) {
                    for (int ease = 0; ease <= 5; ease++) {
                        oneSpan(ease, w, v, slopes);
                    }
                }
            }
        }
    }

    private static void oneSpan(int ease, int w, int[] v, int[] slopes) {
        EaseCurves x = new EaseCurves();
        x.addKey(3, 999 - w, v[0], ease);
        x.addKey(3, 999, v[1], 0);
        x.setTangent(3, 0, 0, slopes[0]);
        x.setTangent(3, 1, 0, slopes[1]);
        for (int i : new int[] {0, 1, Math.min(4, w - 1), w / 2, w - 1}) {
            due.same("ease " + ease + " at " + i + " of " + w + " from " + v[0] + " to " + v[1]
                    + " by " + slopes[0] + " and " + slopes[1], x.value(3, 999 - w + i),
                    v[0] + rise(ease, v[1] - v[0], 1000 * i / w, w, slopes));
        }
    }

    private static long rise(int ease, int d, int t, int w, int[] slopes) {
        switch (ease) {
            case 0:
                return 0;
            case 1:
                return quotient(1000, product(d, t));
            case 2:
                return quotient(1000000, product(d, t, t));
            case 3:
                return quotient(1000000, product(d, 1000000 - (1000 - t) * (1000 - t)));
            case 4:
                return quotient(1000000000, product(d, t, t, 3000 - 2 * t));
            default:
                long m = quotient(1000, product(w, slopes[0]));
                long n = quotient(1000, product(w, slopes[1]));
                BigInteger ofD = product(d, 3000, t, t).subtract(product(d, 2, t, t, t));
                BigInteger ofM = product(m, t, t, t).subtract(product(m, 2000, t, t))
                        .add(product(m, 1000000, t));
                BigInteger ofN = product(n, t, t, t).subtract(product(n, 1000, t, t));
                return quotient(1000000000, ofD.add(ofM).add(ofN));
        }
    }

    private static BigInteger product(long... factors) {
        BigInteger product = BigInteger.ONE;
        for (long factor : factors) {
            product = product.multiply(BigInteger.valueOf(factor));
        }
        return product;
    }

    private static long quotient(long divisor, BigInteger number) {
        return number.divide(BigInteger.valueOf(divisor)).longValueExact();
    }

    // "a / b means division toward 0."
    private static void divisionTowardZero() {
        for (int ease = 1; ease <= 5; ease++) {
            EaseCurves x = new EaseCurves();
            x.addKey(0, 0, 0, ease);
            x.addKey(0, 999, -1, 0);
            due.same("less than one down is 0, ease " + ease, x.value(0, 998), 0);
            x.setKey(0, 1, 1, 0);
            due.same("less than one up is 0, ease " + ease, x.value(0, 998), 0);
        }
        EaseCurves x = new EaseCurves();
        x.addKey(0, 0, 0, 5);
        x.addKey(0, 10, 0, 5);
        // At t = 500 an m of -7 gives -0.875, and one of -8 would give -1; the same for n, up.
        x.setTangent(0, 0, 0, -799);
        due.same("m is -7", x.value(0, 5), 0);
        x.setTangent(0, 0, 0, -800);
        due.same("m is -8", x.value(0, 5), -1);
        x.setTangent(0, 0, 0, 0);
        x.setTangent(0, 1, 0, -799);
        due.same("n is -7", x.value(0, 5), 0);
        x.setTangent(0, 1, 0, -800);
        due.same("n is -8", x.value(0, 5), 1);
        EaseCurves y = Curves.read("0,1,1;1,0,1s;3,0,1;");
        due.same("a tangent of -333.3", y.key(0, 1, 5), -333);
    }

    // "tangents, with one division at the end"
    private static void oneDivisionAtTheEnd() {
        EaseCurves x = new EaseCurves();
        x.addKey(0, 0, 0, 5);
        x.addKey(0, 10, 1, 5);
        // At t = 500 half a value by d, and half a value by m = 4.
        x.setTangent(0, 0, 0, 400);
        due.same("two halves by d and m", x.value(0, 5), 1);
        x.setTangent(0, 0, 0, 300);
        due.same("less than two halves", x.value(0, 5), 0);
        x.setTangent(0, 0, 0, 0);
        x.setTangent(0, 1, 0, -400);
        due.same("two halves by d and n", x.value(0, 5), 1);
        x.setKey(0, 1, 0, 5);
        x.setTangent(0, 0, 0, 400);
        due.same("two halves by m and n", x.value(0, 5), 1);
    }

    // "An object is used for at most 512 calls": the last of them answers, too.
    private static void lastCall() {
        EaseCurves x = new EaseCurves();
        x.addKey(0, 5, 5, 5);
        for (int call = 2; call <= 510; call++) {
            x.lock(0, 0, call % 2 == 0);
        }
        due.same("call 511", x.lock(0, 0, false), 1);
        due.same("call 512", x.undo(), 3);
        EaseCurves y = new EaseCurves();
        for (int call = 1; call <= 150; call++) {
            y.append(';');
        }
        for (int call = 151; call <= 511; call++) {
            y.reduce(call % 4, 9999);
        }
        due.same("call 512", y.clearText(), 150);
    }
}
