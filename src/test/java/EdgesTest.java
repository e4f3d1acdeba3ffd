import java.math.BigInteger;

/**
 * The boundary cases that the promises 1 to 25 name by themselves: what "also", "ends included",
 * "of several the first one" and their like say, and the least and the greatest answers. The
 * bounds of the parameters are in BoundsTest, the exceptions in RefusalTest, what the description
 * says in DescriptionTest, StretchTest, LeavingOutTest, GrammarTest and UndoTest.
 */
public final class EdgesTest {
    private static final Due due = new Due();

    public static void main(String[] args) {
        newObject();
        removeAllKeys();
        setKeyAlone();
        moveEachKey();
        moveTheOnlyKey();
        tangentThatWas();
        lockTwice();
        copyOfItself();
        copyWidest();
        copyAll();
        reduceLeastFirst();
        reduceFirstOfSeveral();
        reduceAsItIsThen();
        numberOfKeys();
        sumEnds();
        extremeFrames();
        extremeSteps();
        crossingsAtTheLevel();
        crossingsAtTheEnds();
        differenceFrames();
        meanIsADouble();
        errorOfEnds();
        greatestStretchSteps();
        greatestStretchLocks();
        leastEaseOfSeveral();
        leastEaseOfSums();
        leastEaseOfAnySpan();
        textLengths();
        digestOfTheScene();
        due.end();
    }

    private static void same(String what, long got, long want) {
        due.same(what, got, want);
    }

    /** Keys that hold, at the frames from the first one on. */
    private static EaseCurves holds(int first, int... values) {
        EaseCurves x = new EaseCurves();
        for (int i = 0; i < values.length; i++) {
            x.addKey(0, first + i, values[i], 0);
        }
        return x;
    }

    private static EaseCurves sixteen() {
        EaseCurves x = new EaseCurves();
        for (int i = 0; i < 16; i++) {
            x.addKey(0, 60 * i, i, i % 6);
        }
        return x;
    }

    // Promise 1: "Creates four curves without keys."
    private static void newObject() {
        EaseCurves x = new EaseCurves();
        for (int c = 0; c < 4; c++) {
            same("keys", x.key(c, EaseCurves.NONE, 0), 0);
            same("the least value", x.extreme(c, 0, 999, 2), 0);
            same("the greatest value", x.extreme(c, 0, 999, 0), 0);
        }
    }

    // Promise 3: "Returns the number of keys that are left."
    private static void removeAllKeys() {
        EaseCurves x = sixteen();
        EaseCurves y = sixteen();
        for (int left = 15; left >= 0; left--) {
            same("the first one of " + (left + 1), x.removeKey(0, 0), left);
            same("the last one of " + (left + 1), y.removeKey(0, left), left);
            if (left > 0) {
                same("the first one that is left", x.key(0, 0, 0), 60 * (16 - left));
                same("the last one that is left", y.key(0, left - 1, 0), 60 * (left - 1));
            }
        }
        same("the curve is empty", x.value(0, 999), 0);
    }

    // Promise 4: "Sets value and ease of a key. [..] Returns the previous value."
    private static void setKeyAlone() {
        EaseCurves x = sixteen();
        for (int k : new int[] {0, 7, 15}) {
            same("what it was", x.setKey(0, k, 9999, 5), k);
            same("what it was then", x.setKey(0, k, -9999, 0), 9999);
            same("and then", x.setKey(0, k, -9999, 0), -9999);
        }
        for (int k = 0; k < 16; k++) {
            boolean set = k == 0 || k == 7 || k == 15;
            same("value " + k, x.key(0, k, 1), set ? -9999 : k);
            same("ease " + k, x.key(0, k, 2), set ? 0 : k % 6);
        }
    }

    // Promise 5: "Moves a key to a frame, also past other keys, or to that which it has."
    private static void moveEachKey() {
        for (int k = 0; k < 16; k++) {
            for (int place = 0; place <= 16; place++) {
                EaseCurves x = sixteen();
                int frame = place == 16 ? 999 : Math.max(60 * place - 1, 0);
                if (place == 0) {
                    // Frame 0 is free when the keys begin at 1.
                    x.moveKey(0, 0, 1);
                }
                int number = place > k ? place - 1 : place;
                same("key " + k + " to " + frame, x.moveKey(0, k, frame), number);
                same("its frame", x.key(0, number, 0), frame);
                same("its value", x.key(0, number, 1), k);
                for (int i = 1; i < 16; i++) {
                    same("in order", x.key(0, i, 0) > x.key(0, i - 1, 0) ? 1 : 0, 1);
                }
            }
            EaseCurves stays = sixteen();
            String keys = Curves.keys(stays, 0);
            same("key " + k + " to its own frame", stays.moveKey(0, k, 60 * k), k);
            Curves.sameKeys(due, "as they were", stays, 0, keys);
        }
    }

    private static void moveTheOnlyKey() {
        EaseCurves x = Curves.linear(2, 500, 5);
        for (int frame : new int[] {0, 999, 999, 0, 0, 500}) {
            same("the only key", x.moveKey(2, 0, frame), 0);
            same("its frame", x.key(2, 0, 0), frame);
        }
        EaseCurves past = Curves.read("10,1,1;20,2,1l;30,3,1l;");
        same("past locked keys", past.moveKey(0, 0, 40), 2);
        same("and back", past.moveKey(0, 2, 15), 0);
    }

    // Promise 6: "Returns the tangent that the key had, as by its mode."
    private static void tangentThatWas() {
        EaseCurves x = Curves.linear(0, 0, 0, 1, 1, 2, 2);
        int[] betweens = {0, 1000, 0};
        for (int key = 0; key < 3; key++) {
            same("slope 0", x.setTangent(0, key, 0, 99999), 0);
            same("slope 99999", x.setTangent(0, key, 0, -99999), 99999);
            same("slope -99999", x.setTangent(0, key, 1, -99999), -99999);
            same("smooth", x.setTangent(0, key, 2, 5), betweens[key]);
            same("level", x.setTangent(0, key, 0, 7), betweens[key]);
            same("by hand", x.setTangent(0, key, 0, 7), 7);
            same("the slope is kept with each mode", x.setTangent(0, key, 1, 7), 7);
            same("slope", x.key(0, key, 4), 7);
        }
    }

    // Promise 7: "Returns 1 if it was locked, otherwise 0."
    private static void lockTwice() {
        EaseCurves x = sixteen();
        for (int k : new int[] {0, 8, 15}) {
            same("not locked", x.lock(0, k, false), 0);
            same("not locked then", x.lock(0, k, true), 0);
            same("locked", x.lock(0, k, true), 1);
            same("locked then", x.lock(0, k, false), 1);
            same("unlocked", x.key(0, k, 6), 0);
            x.lock(0, k, true);
        }
        for (int k = 0; k < 16; k++) {
            same("lock " + k, x.key(0, k, 6), k == 0 || k == 8 || k == 15 ? 1 : 0);
        }
    }

    // Promise 9: "Makes a curve a copy of a curve (also of itself), with an offset for all values"
    private static void copyOfItself() {
        EaseCurves x = sixteen();
        for (int k = 0; k < 16; k++) {
            x.setTangent(0, k, k % 3, k - 8);
        }
        same("of itself", x.copy(0, 0, -15), 16);
        for (int k = 0; k < 16; k++) {
            int[] wants = {60 * k, k - 15, k % 6, k % 3, k - 8};
            for (int what = 0; what < wants.length; what++) {
                same("what " + what + " of key " + k, x.key(0, k, what), wants[what]);
            }
        }
        same("an empty one of itself", x.copy(1, 1, 9999), 0);
    }

    // "or a value would not be -9999 to 9999"
    private static void copyWidest() {
        EaseCurves x = new EaseCurves();
        x.addKey(0, 0, -9999, 0);
        x.addKey(0, 999, 0, 0);
        same("up by 9999", x.copy(1, 0, 9999), 2);
        Curves.sameKeys(due, "up", x, 1, "0,0,0,0,0,0,0;999,9999,0,0,0,0,0;");
        same("down by 9999", x.copy(2, 1, -9999), 2);
        Curves.sameKeys(due, "down", x, 2, "0,-9999,0,0,0,0,0;999,0,0,0,0,0,0;");
        due.refused("beyond the greatest", x, Curves.STATE, () -> x.copy(1, 1, 1));
        due.refused("beyond the least", x, Curves.STATE, () -> x.copy(2, 2, -1));
        same("a curve without keys takes each offset", x.copy(1, 3, 9999), 0);
        same("the other side", x.copy(2, 3, -9999), 0);
    }

    // "eases, tangent modes, slopes and locks are copied, too [..] Returns the number of keys."
    private static void copyAll() {
        EaseCurves x = Curves.read("0,1,5ls;5,2,4lv;999,3,3;");
        x.setTangent(0, 2, 1, -99999);
        for (int i = 0; i < 16; i++) {
            x.addKey(1, 50 + i, 9, 2);
        }
        same("three instead of 16", x.copy(1, 0, 0), 3);
        Curves.sameKeys(due, "the copy", x, 1, Curves.keys(x, 0));
        same("none instead of none", x.copy(2, 3, 0), 0);
        EaseCurves full = sixteen();
        same("16 instead of none", full.copy(3, 0, 0), 16);
        same("no difference", full.difference(0, 3), 0);
        due.refused("a copied lock refuses", x, Curves.STATE, () -> x.copy(1, 3, 0));
    }

    // Promise 10: "the one with the least error [..] is removed"
    private static void reduceLeastFirst() {
        // The steps are 7, 3, 3. The first one within 7 first would leave a step of 10.
        EaseCurves x = Curves.read("0,0,0;10,7,0;20,10,0;30,13,0;40,90,0;");
        same("the least first", x.reduce(0, 7), 3);
        EaseCurves last = Curves.read("0,0,0;10,7,0;20,13,0;40,90,0;");
        same("the last one is the least", last.reduce(0, 6), 1);
        same("the first one stays", last.key(0, 1, 0), 10);
    }

    // "of several the first one"
    private static void reduceFirstOfSeveral() {
        EaseCurves x = Curves.read("0,0,0;10,3,0;20,6,0;30,9,0;40,90,0;");
        // Steps of 3: without the first one there are steps of 6 and 3, and then of 6 alone.
        same("two of three", x.reduce(0, 3), 2);
        Curves.sameKeys(due, "the one between stays", x, 0,
                "0,0,0,0,0,0,0;20,6,0,0,0,0,0;40,90,0,0,0,0,0;");
        EaseCurves y = Curves.read("0,0,0;10,3,0;20,6,0;40,90,0;");
        same("one of two", y.reduce(0, 3), 1);
        same("the first one is removed", y.key(0, 1, 0), 20);
    }

    // "out of the curve as it is then"
    private static void reduceAsItIsThen() {
        // Without 3 the value 2 goes on, and is then 2 away from 0, though 3 was 3 away from it.
        EaseCurves x = Curves.read("0,0,0;10,2,0;20,3,0;40,90,0;");
        same("both", x.reduce(0, 2), 2);
        EaseCurves y = Curves.read("0,0,0;10,1,0;20,0,0;30,1,0;40,0,0;50,9,0;");
        same("none at 0", y.reduce(0, 0), 0);
        same("all at 1", y.reduce(0, 1), 4);
    }

    // Promise 11: "or NONE for the number of keys (then what does not matter, but must be in
    // range)"
    private static void numberOfKeys() {
        EaseCurves x = sixteen();
        for (int what = 0; what <= 6; what++) {
            same("16 keys", x.key(0, EaseCurves.NONE, what), 16);
            same("no keys", x.key(1, EaseCurves.NONE, what), 0);
        }
        due.refused("what 7", x, Curves.ARGUMENT, () -> x.key(0, EaseCurves.NONE, 7));
        due.refused("what -1", x, Curves.ARGUMENT, () -> x.key(1, EaseCurves.NONE, -1));
    }

    // Promise 13: "the sum of the values at the frames from..to, ends included"
    private static void sumEnds() {
        EaseCurves x = holds(10, 1, 10, 100, 1000, 0);
        same("both ends", x.sum(0, 10, 12), 111);
        same("two frames", x.sum(0, 12, 13), 1100);
        same("one frame", x.sum(0, 11, 11), 10);
        same("from before the keys", x.sum(0, 8, 10), 3);
        EaseCurves ends = Curves.read("0,7,0;1,0,0;999,11,0;");
        same("frame 0 alone", ends.sum(0, 0, 0), 7);
        same("frame 999 alone", ends.sum(0, 999, 999), 11);
        same("all frames", ends.sum(0, 0, 999), 18);
        same("all but the ends", ends.sum(0, 1, 998), 0);
        EaseCurves most = Curves.linear(0, 0, 9999);
        same("the greatest values", most.sum(0, 0, 999), 9999000);
    }

    // Promise 14: "0 the greatest value, 1 the first frame with it, 2 the smallest value, 3 the
    // first frame with it"
    private static void extremeFrames() {
        EaseCurves x = holds(10, 5, 50, -50, 5, 50, -50, 5);
        same("greatest", x.extreme(0, 0, 999, 0), 50);
        same("the first of two", x.extreme(0, 0, 999, 1), 11);
        same("smallest", x.extreme(0, 0, 999, 2), -50);
        same("the first of two", x.extreme(0, 0, 999, 3), 12);
        same("the second one, from behind the first", x.extreme(0, 12, 999, 1), 14);
        same("the second one, from behind the first", x.extreme(0, 13, 999, 3), 15);
        same("at from", x.extreme(0, 11, 999, 1), 11);
        same("at to", x.extreme(0, 12, 14, 1), 14);
        same("smallest at from", x.extreme(0, 12, 999, 3), 12);
        same("smallest at to", x.extreme(0, 13, 15, 3), 15);
        same("just before it", x.extreme(0, 12, 13, 0), 5);
        same("just behind it", x.extreme(0, 13, 14, 2), 5);
        same("of equal ones the first frame", x.extreme(0, 500, 999, 1), 500);
        same("of equal ones the first frame", x.extreme(0, 0, 9, 3), 0);
        same("frame 0 alone", x.extreme(0, 0, 0, 1), 0);
        same("frame 999 alone", x.extreme(0, 999, 999, 3), 999);
        same("without keys the first frame", x.extreme(1, 0, 999, 1), 0);
        same("without keys from 3 on", x.extreme(1, 3, 999, 3), 3);
        EaseCurves below = holds(0, -5, -4, -6);
        same("greatest below 0", below.extreme(0, 0, 999, 0), -4);
        EaseCurves above = holds(0, 5, 4, 6);
        same("smallest above 0", above.extreme(0, 0, 999, 2), 4);
        EaseCurves end = Curves.read("0,1,0;999,2,0;");
        same("at frame 999", end.extreme(0, 0, 999, 1), 999);
        end.setKey(0, 1, 0, 0);
        same("smallest at frame 999", end.extreme(0, 0, 999, 3), 999);
    }

    // "4 the greatest absolute difference of the values at two neighboring frames (0 for one
    // frame)"
    private static void extremeSteps() {
        EaseCurves x = holds(10, 5, 50, -50, 5);
        same("down", x.extreme(0, 0, 999, 4), 100);
        same("up", x.extreme(0, 10, 11, 4), 45);
        same("up again", x.extreme(0, 12, 999, 4), 55);
        same("down alone", x.extreme(0, 11, 12, 4), 100);
        for (int f : new int[] {0, 10, 11, 12, 13, 999}) {
            same("one frame", x.extreme(0, f, f, 4), 0);
        }
        same("equal ones", x.extreme(0, 13, 999, 4), 0);
        same("not neighboring", holds(0, 0, 3, 6, 9).extreme(0, 0, 3, 4), 3);
        same("frames 0 and 1", holds(0, -9999, 9999).extreme(0, 0, 999, 4), 19998);
        same("frames 998 and 999", holds(998, 9999, -9999).extreme(0, 0, 999, 4), 19998);
    }

    // Promise 15: "the value is at least the level and the value at the frame before is less, or
    // [..] it is less and the value at the frame before is at least the level"
    private static void crossingsAtTheLevel() {
        EaseCurves x = holds(10, 0, 5, 4, 5, 6, 5, 0);
        int[] counts = {0, 2, 2, 2, 2, 4, 2, 0};
        for (int level = 0; level < counts.length; level++) {
            same("level " + level, x.crossings(0, level), counts[level]);
        }
        same("the greatest value", holds(10, 0, 9999, 0).crossings(0, 9999), 2);
        same("above it", holds(10, 0, 9999, 0).crossings(0, 10000), 0);
        same("the least value", holds(10, 0, -9999, 0).crossings(0, -9999), 0);
        same("above the least value", holds(10, 0, -9999, 0).crossings(0, -9998), 2);
        same("without keys at 0", x.crossings(1, 0), 0);
        same("without keys at 1", x.crossings(1, 1), 0);
        EaseCurves most = new EaseCurves();
        for (int i = 0; i < 16; i++) {
            most.addKey(0, i, i % 2, 0);
        }
        same("at each key but the first", most.crossings(0, 1), 15);
    }

    // "the frames from 1 to 999"
    private static void crossingsAtTheEnds() {
        same("up at 1", holds(0, 0, 1).crossings(0, 1), 1);
        same("down at 1", holds(0, 1, 0).crossings(0, 1), 1);
        same("up at 999", holds(998, 0, 1).crossings(0, 1), 1);
        same("down at 999", holds(998, 1, 0).crossings(0, 1), 1);
        same("none at 0, whatever it is", holds(0, 1).crossings(0, 1), 0);
        same("none at 0, below", holds(0, -1).crossings(0, 0), 0);
    }

    // Promise 16: "the greatest absolute difference [..] over all frames from 0 to 999"
    private static void differenceFrames() {
        for (int frame : new int[] {0, 1, 500, 998, 999}) {
            for (int value : new int[] {7, -7}) {
                EaseCurves x = new EaseCurves();
                x.addKey(0, frame, value, 0);
                if (frame > 0) {
                    x.addKey(0, frame - 1, 0, 0);
                }
                if (frame < 999) {
                    x.addKey(0, frame + 1, 0, 0);
                }
                same("frame " + frame + " alone", x.difference(0, 1), 7);
                same("the other way", x.difference(1, 0), 7);
                same("to itself", x.difference(0, 0), 0);
            }
        }
        EaseCurves wide = Curves.linear(0, 0, -9999);
        wide.addKey(3, 0, 9999, 0);
        same("the widest", wide.difference(0, 3), 19998);
        same("two without keys", wide.difference(1, 2), 0);
    }

    // Promise 17: "the sum [..], converted to double, divided by 1000.0"
    private static void meanIsADouble() {
        for (int value : new int[] {1, -1, 7, -9999, 9999}) {
            EaseCurves x = new EaseCurves();
            x.addKey(0, 998, 0, 0);
            x.addKey(0, 999, value, 0);
            x.addKey(1, 0, value, 0);
            x.addKey(1, 1, 0, 0);
            x.addKey(2, 0, value, 0);
            due.same("of frame 999", x.mean(0), (double) value / 1000.0);
            due.same("of frame 0", x.mean(1), (double) value / 1000.0);
            due.same("of all frames", x.mean(2), (double) value);
            due.same("of no keys", x.mean(3), 0.0);
        }
    }

    // Promise 18: "NONE if it is locked, or the first or the last one."
    private static void errorOfEnds() {
        for (int count = 1; count <= 16; count++) {
            EaseCurves x = new EaseCurves();
            for (int i = 0; i < count; i++) {
                x.addKey(0, i, 5 * (i % 2), 0);
            }
            for (int i = 0; i < count; i++) {
                boolean end = i == 0 || i == count - 1;
                same("key " + i + " of " + count, x.error(0, i), end ? -1 : 5);
            }
            x.lock(0, count / 2, true);
            same("locked", x.error(0, count / 2), -1);
        }
    }

    // Promise 19: "the greatest percentage of 500, 490, 480, .., 10 with which stretching is
    // possible (100 always is)"
    private static void greatestStretchSteps() {
        for (int percent = 500; percent >= 110; percent -= 10) {
            // A span of 100 frames moves what is behind it by percent - 100.
            EaseCurves x = Curves.linear(0, 1099 - percent, 5);
            same("to 999", x.greatestStretch(0, 0, 100), percent);
            x.moveKey(0, 0, 1100 - percent);
            same("to 1000", x.greatestStretch(0, 0, 100), percent - 10);
            x.moveKey(0, 0, 999);
            same("the last frame", x.greatestStretch(0, 0, 100), 100);
        }
        EaseCurves full = sixteen();
        full.moveKey(0, 15, 999);
        same("16 keys up to 999", full.greatestStretch(0, 0, 999), 100);
        same("a span behind all keys", holds(5, 1).greatestStretch(0, 6, 999), 500);
        same("a key at the start of the span", holds(5, 1).greatestStretch(0, 5, 999), 500);
        same("without keys", full.greatestStretch(1, 998, 999), 500);
    }

    private static void greatestStretchLocks() {
        EaseCurves x = Curves.linear(0, 0, 0, 100, 1);
        x.lock(0, 1, true);
        same("one frame: 199 moves nothing", x.greatestStretch(0, 0, 1), 190);
        same("five frames: 119 moves nothing", x.greatestStretch(0, 0, 5), 110);
        same("nine frames: 111 moves nothing", x.greatestStretch(0, 0, 9), 110);
        same("ten frames: 109 moves nothing", x.greatestStretch(0, 0, 10), 100);
        same("locked in the span", x.greatestStretch(0, 0, 999), 100);
        same("locked at the start of the span", x.greatestStretch(0, 100, 999), 500);
        same("locked before the span", x.greatestStretch(0, 101, 102), 500);
        EaseCurves all = sixteen();
        for (int k = 0; k < 16; k++) {
            all.lock(0, k, true);
        }
        same("all of 16 locked", all.greatestStretch(0, 0, 999), 100);
    }

    private static int leastEase(int from, int to, int slope, int width) {
        EaseCurves x = new EaseCurves();
        x.addKey(0, 0, from, 2);
        x.addKey(0, width, to, 2);
        x.setTangent(0, 0, 0, slope);
        return x.leastEase(0, 0);
    }

    // Promise 20: "Returns the ease, of several the lowest one."
    private static void leastEaseOfSeveral() {
        // In a span of two frames at t = 500: d / 2, d / 4, d * 3 / 4, d / 2, d / 2 + m / 8.
        same("-1: all are 0", leastEase(0, -1, 0, 2), 0);
        same("-2: linear, out, smooth and tangents are -1", leastEase(0, -2, 0, 2), 1);
        same("-4: out is -3", leastEase(0, -4, 0, 2), 3);
        same("-4: out and tangents are -3", leastEase(0, -4, -4000, 2), 3);
        same("-4: tangents are -4", leastEase(0, -4, -8000, 2), 5);
        same("4: hold is 0", leastEase(0, 4, 0, 2), 0);
        same("4: hold and tangents are 0", leastEase(0, 4, -8000, 2), 0);
        same("4: tangents are -1", leastEase(0, 4, -12000, 2), 5);
        same("0: all are 0", leastEase(7, 7, 0, 2), 0);
        same("no frame between", leastEase(9999, -9999, -99999, 1), 0);
    }

    // "the least sum of values (over the frames from that of the key to that of the next key)"
    private static void leastEaseOfSums() {
        // The tangents go down first, and up by as much behind: out is less in sum.
        EaseCurves x = new EaseCurves();
        x.addKey(0, 0, 0, 1);
        x.addKey(0, 100, -100, 1);
        x.addKey(0, 200, -200, 1);
        x.setTangent(0, 0, 0, -20000);
        x.setTangent(0, 1, 0, -20000);
        long[] sums = new long[6];
        int best = 0;
        for (int ease = 0; ease <= 5; ease++) {
            x.setKey(0, 0, 0, ease);
            sums[ease] = x.sum(0, 0, 100);
            best = sums[ease] < sums[best] ? ease : best;
            due.same("whatever ease it has", x.leastEase(0, 0), 3);
        }
        same("by the sums", best, 3);
        x.setKey(0, 0, 0, 5);
        same("tangents have the least value", x.extreme(0, 0, 100, 2) < -100 ? 1 : 0, 1);
    }

    private static void leastEaseOfAnySpan() {
        EaseCurves x = Curves.read("0,0,5;10,-50,4l;20,50,3l;999,-9999,2l;");
        same("the first span", x.leastEase(0, 0), 3);
        same("a locked key, up", x.leastEase(0, 1), 0);
        same("a locked key before the last one", x.leastEase(0, 2), 3);
        x.setTangent(0, 0, 0, 0);
        same("the ease is what it was", x.key(0, 0, 2), 5);
        same("the ease is what it was", x.key(0, 2, 2), 3);
    }

    // Promises 21 and 22: "Returns the new length of the text.", "Returns the length that it had."
    private static void textLengths() {
        for (int length : new int[] {0, 1, 149, 150}) {
            EaseCurves x = new EaseCurves();
            for (int i = 1; i <= length; i++) {
                same("the new length", x.append(i % 2 * 127), i);
            }
            same("the length that it had", x.clearText(), length);
            same("nothing any more", x.clearText(), 0);
            same("the first byte", x.append(0), 1);
        }
    }

    // Promise 25: "value() at the frames 0, 37, 74, and so on, up to 999", "with the overflow of
    // long arithmetic ignored"
    private static void digestOfTheScene() {
        EaseCurves x = Scene.make();
        BigInteger h = BigInteger.valueOf(3323);
        h = next(h, 15);
        int frames = 0;
        for (int c = 0; c < 4; c++) {
            int count = x.key(c, EaseCurves.NONE, 0);
            h = next(h, count);
            for (int k = 0; k < count; k++) {
                for (int what = 0; what <= 6; what++) {
                    h = next(h, x.key(c, k, what));
                }
            }
            for (int f = 0; f <= 999; f += 37) {
                h = next(h, x.value(c, f));
                frames++;
            }
        }
        h = next(h, 4);
        same("28 frames of each curve", frames, 4 * 28);
        same("the digest", x.digest(), h.longValue());
        x.undo();
        same("one state less, and another curve", x.digest() == h.longValue() ? 1 : 0, 0);
    }

    private static BigInteger next(BigInteger h, long v) {
        return h.multiply(BigInteger.valueOf(31)).add(BigInteger.valueOf(v));
    }
}
