/** Promises 1 to 11: the object, and the calls on keys. */
public final class KeysTest {
    private static final Due due = new Due();

    public static void main(String[] args) {
        newObject();
        addKey();
        addKeyRefuses();
        removeKey();
        setKey();
        moveKey();
        setTangent();
        tangentsByMode();
        lock();
        stretch();
        stretchRefuses();
        copy();
        copyRefuses();
        reduce();
        reduceByError();
        key();
        due.end();
    }

    // Promise 1
    private static void newObject() {
        EaseCurves x = new EaseCurves();
        for (int c = 0; c < 4; c++) {
            due.same("keys of a new curve", x.key(c, EaseCurves.NONE, 0), 0);
            due.same("value of a new curve", x.value(c, 0), 0);
            due.same("last value of a new curve", x.value(c, 999), 0);
        }
        due.same("text of a new object", x.clearText(), 0);
        due.refused("undo of a new object", x, Curves.STATE, () -> x.undo());
        due.same("NONE", EaseCurves.NONE, -1);
        EaseCurves other = new EaseCurves();
        other.addKey(0, 1, 1, 1);
        due.same("objects share nothing", x.key(0, EaseCurves.NONE, 0), 0);
    }

    // Promise 2
    private static void addKey() {
        EaseCurves x = new EaseCurves();
        due.same("first key", x.addKey(1, 500, 9999, 5), 0);
        due.same("key before", x.addKey(1, 0, -9999, 0), 0);
        due.same("key behind", x.addKey(1, 999, 0, 3), 2);
        due.same("key between", x.addKey(1, 499, 7, 2), 1);
        Curves.sameKeys(due, "added keys", x, 1,
                "0,-9999,0,0,0,0,0;499,7,2,0,0,0,0;500,9999,5,0,0,0,0;999,0,3,0,0,0,0;");
        due.same("other curve is empty", x.key(0, EaseCurves.NONE, 0), 0);
        due.same("addKey is undoable", x.undo(), 3);
        Curves.sameKeys(due, "keys after undo", x, 1,
                "0,-9999,0,0,0,0,0;500,9999,5,0,0,0,0;999,0,3,0,0,0,0;");
        EaseCurves full = new EaseCurves();
        for (int i = 0; i < 16; i++) {
            due.same("key " + i, full.addKey(3, 10 * (15 - i), i, 1), 0);
        }
        due.refused("a 17th key", full, Curves.STATE, () -> full.addKey(3, 999, 0, 0));
        due.same("another curve still takes keys", full.addKey(2, 999, 0, 0), 0);
        due.same("keys of a full curve", full.key(3, EaseCurves.NONE, 0), 16);
    }

    private static void addKeyRefuses() {
        EaseCurves x = Curves.linear(0, 5, 5);
        due.refused("curve -1", x, Curves.INDEX, () -> x.addKey(-1, 0, 0, 0));
        due.refused("curve 4", x, Curves.INDEX, () -> x.addKey(4, 1000, 10000, 6));
        due.refused("frame -1", x, Curves.ARGUMENT, () -> x.addKey(0, -1, 0, 0));
        due.refused("frame 1000", x, Curves.ARGUMENT, () -> x.addKey(0, 1000, 0, 0));
        due.refused("value -10000", x, Curves.ARGUMENT, () -> x.addKey(0, 0, -10000, 0));
        due.refused("value 10000", x, Curves.ARGUMENT, () -> x.addKey(0, 0, 10000, 0));
        due.refused("ease -1", x, Curves.ARGUMENT, () -> x.addKey(0, 0, 0, -1));
        due.refused("ease 6 at a taken frame", x, Curves.ARGUMENT, () -> x.addKey(0, 5, 0, 6));
        due.refused("a taken frame", x, Curves.STATE, () -> x.addKey(0, 5, 0, 0));
        int least = Integer.MIN_VALUE;
        due.refused("least curve", x, Curves.INDEX, () -> x.addKey(least, 0, 0, 0));
        due.refused("least value", x, Curves.ARGUMENT, () -> x.addKey(0, 0, least, 0));
    }

    // Promise 3
    private static void removeKey() {
        EaseCurves x = Curves.linear(0, 10, 1, 20, 2, 30, 3);
        due.same("remove the middle one", x.removeKey(0, 1), 2);
        Curves.sameKeys(due, "after it", x, 0, "10,1,1,0,0,0,0;30,3,1,0,0,0,0;");
        x.lock(0, 0, true);
        due.refused("a locked key", x, Curves.STATE, () -> x.removeKey(0, 0));
        due.refused("key 2", x, Curves.INDEX, () -> x.removeKey(0, 2));
        due.refused("key -1", x, Curves.INDEX, () -> x.removeKey(0, -1));
        due.refused("curve 4", x, Curves.INDEX, () -> x.removeKey(4, 0));
        due.refused("curve -1", x, Curves.INDEX, () -> x.removeKey(-1, 0));
        due.same("remove the last one", x.removeKey(0, 1), 1);
        x.lock(0, 0, false);
        due.same("remove the only one", x.removeKey(0, 0), 0);
        due.same("removeKey is undoable", x.undo(), 3);
        Curves.sameKeys(due, "the key is back", x, 0, "10,1,1,0,0,0,0;");
    }

    // Promise 4
    private static void setKey() {
        EaseCurves x = Curves.linear(0, 10, 1, 20, 2);
        x.setTangent(0, 1, 2, 77);
        due.same("setKey", x.setKey(0, 1, -9999, 5), 2);
        due.same("setKey again", x.setKey(0, 1, 9999, 0), -9999);
        Curves.sameKeys(due, "only value and ease", x, 0, "10,1,1,0,0,0,0;20,9999,0,2,77,0,0;");
        due.same("setKey is undoable", x.undo(), 3);
        due.same("the value is back", x.key(0, 1, 1), -9999);
        due.same("the ease is back", x.key(0, 1, 2), 5);
        due.refused("curve 4", x, Curves.INDEX, () -> x.setKey(4, 0, 10000, 0));
        due.refused("curve -1", x, Curves.INDEX, () -> x.setKey(-1, 0, 0, 0));
        due.refused("key 2", x, Curves.INDEX, () -> x.setKey(0, 2, 10000, 0));
        due.refused("key -1", x, Curves.INDEX, () -> x.setKey(0, -1, 0, 0));
        x.lock(0, 1, true);
        due.refused("value 10000", x, Curves.ARGUMENT, () -> x.setKey(0, 1, 10000, 0));
        due.refused("value -10000", x, Curves.ARGUMENT, () -> x.setKey(0, 1, -10000, 0));
        due.refused("ease 6", x, Curves.ARGUMENT, () -> x.setKey(0, 1, 0, 6));
        due.refused("ease -1", x, Curves.ARGUMENT, () -> x.setKey(0, 1, 0, -1));
        due.refused("locked", x, Curves.STATE, () -> x.setKey(0, 1, 0, 0));
    }

    // Promise 5
    private static void moveKey() {
        EaseCurves x = Curves.linear(0, 10, 1, 20, 2, 30, 3, 40, 4);
        x.setTangent(0, 1, 1, 55);
        due.same("past the others", x.moveKey(0, 1, 999), 3);
        Curves.sameKeys(due, "moved behind", x, 0,
                "10,1,1,0,0,0,0;30,3,1,0,0,0,0;40,4,1,0,0,0,0;999,2,1,1,55,0,0;");
        due.same("to the front", x.moveKey(0, 3, 0), 0);
        due.same("to its own frame", x.moveKey(0, 2, 30), 2);
        due.same("a little", x.moveKey(0, 2, 31), 2);
        due.same("moveKey is undoable", x.undo(), 3);
        due.same("the frame is back", x.key(0, 2, 0), 30);
        due.same("the move to its own frame is undoable", x.undo(), 2);
        due.refused("a taken frame", x, Curves.STATE, () -> x.moveKey(0, 0, 10));
        due.refused("a taken frame behind", x, Curves.STATE, () -> x.moveKey(0, 0, 40));
        due.refused("curve 4", x, Curves.INDEX, () -> x.moveKey(4, 0, 1000));
        due.refused("key 4", x, Curves.INDEX, () -> x.moveKey(0, 4, 1000));
        due.refused("key -1", x, Curves.INDEX, () -> x.moveKey(0, -1, 1));
        x.lock(0, 0, true);
        due.refused("frame 1000", x, Curves.ARGUMENT, () -> x.moveKey(0, 0, 1000));
        due.refused("frame -1", x, Curves.ARGUMENT, () -> x.moveKey(0, 0, -1));
        due.refused("locked", x, Curves.STATE, () -> x.moveKey(0, 0, 1));
        due.refused("locked, its own frame", x, Curves.STATE, () -> x.moveKey(0, 0, 0));
    }

    // Promise 6
    private static void setTangent() {
        EaseCurves x = Curves.linear(0, 10, 0, 20, 5, 40, 30);
        due.same("from slope 0", x.setTangent(0, 1, 0, -99999), 0);
        due.same("from a slope", x.setTangent(0, 1, 1, 99999), -99999);
        due.same("from a smooth one", x.setTangent(0, 1, 2, 1), 1000);
        due.same("from a level one", x.setTangent(0, 1, 0, 2), 1000);
        due.same("mode", x.key(0, 1, 3), 0);
        due.same("slope", x.key(0, 1, 4), 2);
        due.same("setTangent is undoable", x.undo(), 3);
        due.same("mode is back", x.key(0, 1, 3), 2);
        due.same("slope is back", x.key(0, 1, 4), 1);
        due.refused("curve 4", x, Curves.INDEX, () -> x.setTangent(4, 0, 3, 0));
        due.refused("key 3", x, Curves.INDEX, () -> x.setTangent(0, 3, 3, 0));
        due.refused("key -1", x, Curves.INDEX, () -> x.setTangent(0, -1, 0, 0));
        x.lock(0, 1, true);
        due.refused("mode 3", x, Curves.ARGUMENT, () -> x.setTangent(0, 1, 3, 0));
        due.refused("mode -1", x, Curves.ARGUMENT, () -> x.setTangent(0, 1, -1, 0));
        due.refused("slope 100000", x, Curves.ARGUMENT, () -> x.setTangent(0, 1, 0, 100000));
        due.refused("slope -100000", x, Curves.ARGUMENT, () -> x.setTangent(0, 1, 0, -100000));
        due.refused("locked", x, Curves.STATE, () -> x.setTangent(0, 1, 0, 0));
    }

    private static void tangentsByMode() {
        EaseCurves x = Curves.linear(0, 0, 10, 3, 10, 7, 20);
        for (int key = 0; key < 3; key++) {
            x.setTangent(0, key, 1, 500);
        }
        due.same("smooth first key", x.key(0, 0, 5), 0);
        due.same("smooth key", x.key(0, 1, 5), 10000 / 7);
        due.same("smooth last key", x.key(0, 2, 5), 0);
        x.setTangent(0, 1, 2, 500);
        due.same("equal to one neighbor, less than the other", x.key(0, 1, 5), 0);
        x.setKey(0, 1, 11, 1);
        due.same("between", x.key(0, 1, 5), 10000 / 7);
        x.setKey(0, 1, 20, 1);
        due.same("equal to the greater one", x.key(0, 1, 5), 0);
        x.setKey(0, 1, 21, 1);
        due.same("a top", x.key(0, 1, 5), 0);
        x.setKey(0, 1, -1, 1);
        due.same("a bottom", x.key(0, 1, 5), 0);
        int[][] turns = {{5, 5, 4}, {5, 5, 6}, {4, 5, 5}, {6, 5, 5}, {5, 5, 5}};
        for (int[] v : turns) {
            EaseCurves turn = Curves.linear(0, 0, v[0], 3, v[1], 7, v[2]);
            turn.setTangent(0, 1, 2, 9);
            due.same("equal values are a turn", turn.key(0, 1, 5), 0);
            turn.setTangent(0, 1, 1, 9);
            due.same("but not for smooth ones", turn.key(0, 1, 5), 1000 * (v[2] - v[0]) / 7);
        }
        EaseCurves down = Curves.linear(0, 0, 20, 3, 15, 7, 9);
        down.setTangent(0, 1, 2, 0);
        due.same("division toward 0", down.key(0, 1, 5), -1571);
        EaseCurves one = Curves.linear(0, 0, 20);
        one.setTangent(0, 0, 0, 9);
        due.same("by hand, the only key", one.key(0, 0, 5), 9);
        due.same("by hand, answered", one.setTangent(0, 0, 2, 9), 9);
        due.same("level, the only key", one.key(0, 0, 5), 0);
    }

    // Promise 7
    private static void lock() {
        EaseCurves x = Curves.linear(0, 10, 0, 20, 5);
        due.same("lock", x.lock(0, 1, true), 0);
        due.same("lock a locked one", x.lock(0, 1, true), 1);
        due.same("is locked", x.key(0, 1, 6), 1);
        due.same("the other one is not", x.key(0, 0, 6), 0);
        due.same("unlock", x.lock(0, 1, false), 1);
        due.same("unlock an unlocked one", x.lock(0, 1, false), 0);
        due.same("is not locked", x.key(0, 1, 6), 0);
        due.same("a lock that changes nothing is undoable", x.undo(), 3);
        due.same("lock is undoable", x.undo(), 2);
        due.same("is locked again", x.key(0, 1, 6), 1);
        due.refused("curve 4", x, Curves.INDEX, () -> x.lock(4, 0, true));
        due.refused("curve -1", x, Curves.INDEX, () -> x.lock(-1, 0, true));
        due.refused("key 2", x, Curves.INDEX, () -> x.lock(0, 2, true));
        due.refused("key -1", x, Curves.INDEX, () -> x.lock(0, -1, true));
    }

    // Promise 8
    private static void stretch() {
        EaseCurves x = Curves.linear(0, 5, 1, 10, 2, 15, 3, 20, 4, 30, 5);
        due.same("stretch by 150", x.stretch(0, 10, 20, 150), 3);
        Curves.sameKeys(due, "stretched", x, 0,
                "5,1,1,0,0,0,0;10,2,1,0,0,0,0;17,3,1,0,0,0,0;25,4,1,0,0,0,0;35,5,1,0,0,0,0;");
        due.same("stretch is undoable", x.undo(), 4 - 1);
        due.same("back", x.key(0, 4, 0), 30);
        due.same("shrink by 33", x.stretch(0, 10, 20, 33), 3);
        Curves.sameKeys(due, "shrunk", x, 0,
                "5,1,1,0,0,0,0;10,2,1,0,0,0,0;11,3,1,0,0,0,0;13,4,1,0,0,0,0;23,5,1,0,0,0,0;");
        due.same("by 100", x.stretch(0, 0, 999, 100), 0);
        due.same("the first key, too", x.stretch(0, 3, 4, 200), 5);
        due.same("its frame", x.key(0, 0, 0), 6);
        due.same("back again", x.undo(), 3);
        due.same("to the last frame", x.stretch(0, 23, 999, 500), 0);
        EaseCurves end = Curves.linear(0, 0, 0, 333, 1);
        due.same("a key at 999", end.stretch(0, 0, 333, 300), 1);
        due.same("its frame", end.key(0, 1, 0), 999);
        EaseCurves locked = Curves.linear(0, 5, 1, 10, 2, 20, 3);
        locked.lock(0, 0, true);
        locked.lock(0, 1, true);
        due.same("locked keys that stay", locked.stretch(0, 10, 20, 500), 1);
        due.same("the last key", locked.key(0, 2, 0), 60);
        due.same("an empty curve", locked.stretch(1, 0, 999, 500), 0);
        due.same("a gap before the keys", locked.stretch(3, 0, 1, 10), 0);
    }

    private static void stretchRefuses() {
        EaseCurves x = Curves.linear(0, 10, 1, 11, 2, 500, 3);
        due.refused("curve 4", x, Curves.INDEX, () -> x.stretch(4, -1, 0, 0));
        due.refused("from -1", x, Curves.ARGUMENT, () -> x.stretch(0, -1, 5, 100));
        due.refused("from 999", x, Curves.ARGUMENT, () -> x.stretch(0, 999, 999, 100));
        due.refused("to is from", x, Curves.ARGUMENT, () -> x.stretch(0, 5, 5, 100));
        due.refused("to 1000", x, Curves.ARGUMENT, () -> x.stretch(0, 5, 1000, 100));
        due.refused("percent 9", x, Curves.ARGUMENT, () -> x.stretch(0, 0, 999, 9));
        due.refused("percent 501", x, Curves.ARGUMENT, () -> x.stretch(0, 0, 999, 501));
        int greatest = Integer.MAX_VALUE;
        due.refused("greatest from", x, Curves.ARGUMENT, () -> x.stretch(0, greatest, 5, 100));
        due.refused("greatest to", x, Curves.ARGUMENT, () -> x.stretch(0, 0, greatest, 100));
        due.refused("same frame", x, Curves.STATE, () -> x.stretch(0, 0, 20, 50));
        due.refused("above 999", x, Curves.STATE, () -> x.stretch(0, 0, 500, 200));
        due.refused("behind y above 999", x, Curves.STATE, () -> x.stretch(0, 12, 137, 500));
        due.same("behind y at 996", x.stretch(0, 12, 136, 500), 1);
        due.same("the frame", x.key(0, 2, 0), 996);
        x.lock(0, 2, true);
        due.refused("locked behind y", x, Curves.STATE, () -> x.stretch(0, 12, 20, 90));
        due.refused("locked within", x, Curves.STATE, () -> x.stretch(0, 12, 998, 99));
        due.same("locked, by 100", x.stretch(0, 0, 998, 100), 0);
    }

    // Promise 9
    private static void copy() {
        EaseCurves x = Curves.read("10,1,2ls;20,-5,3v;30,4,0;");
        x.lock(0, 0, true);
        x.setTangent(0, 2, 0, 777);
        x.addKey(1, 3, 3, 3);
        due.same("copy", x.copy(1, 0, 9995), 3);
        Curves.sameKeys(due, "the copy", x, 1,
                "10,9996,2,1,0,0,1;20,9990,3,2,0,0,0;30,9999,0,0,777,777,0;");
        Curves.sameKeys(due, "the source", x, 0,
                "10,1,2,1,0,0,1;20,-5,3,2,0,0,0;30,4,0,0,777,777,0;");
        due.same("copy is undoable", x.undo(), 3);
        Curves.sameKeys(due, "before the copy", x, 1, "3,3,3,0,0,0,0;");
        x.lock(0, 0, false);
        due.same("of itself", x.copy(0, 0, -9994), 3);
        due.same("its values", x.key(0, 1, 1), -9999);
        due.same("of an empty one", x.copy(0, 3, 9999), 0);
        due.same("no keys", x.key(0, EaseCurves.NONE, 0), 0);
        due.same("the copy of nothing to nothing is undoable", x.copy(3, 3, 0), 0);
        due.same("undo it", x.undo(), 3);
        EaseCurves apart = Curves.linear(0, 5, 5);
        apart.copy(1, 0, 0);
        apart.setKey(1, 0, 6, 1);
        due.same("a copy is its own", apart.key(0, 0, 1), 5);
    }

    private static void copyRefuses() {
        EaseCurves x = Curves.linear(0, 10, 9999, 20, -9999);
        x.addKey(1, 0, 5, 0);
        x.lock(1, 0, true);
        due.refused("curve 4", x, Curves.INDEX, () -> x.copy(4, 0, 10000));
        due.refused("source 4", x, Curves.INDEX, () -> x.copy(0, 4, 10000));
        due.refused("source -1", x, Curves.INDEX, () -> x.copy(0, -1, 0));
        due.refused("offset 10000", x, Curves.ARGUMENT, () -> x.copy(1, 0, 10000));
        due.refused("offset -10000", x, Curves.ARGUMENT, () -> x.copy(2, 3, -10000));
        due.refused("a value 10000", x, Curves.STATE, () -> x.copy(2, 0, 1));
        due.refused("a value -10000", x, Curves.STATE, () -> x.copy(2, 0, -1));
        due.refused("a locked key", x, Curves.STATE, () -> x.copy(1, 0, 0));
        due.refused("a locked key of its own", x, Curves.STATE, () -> x.copy(1, 1, 0));
        due.same("the lock of the source does not matter", x.copy(0, 1, -5), 1);
        Curves.sameKeys(due, "with the lock", x, 0, "0,0,0,0,0,0,1;");
    }

    // Promise 10
    private static void reduce() {
        // Spans of 20, 25 and 40 frames divide 1000, so that no value is cut off.
        EaseCurves x = Curves.linear(0, 0, 0, 10, 10, 20, 20, 40, 40, 50, 0);
        due.same("straight keys", x.reduce(0, 0), 2);
        Curves.sameKeys(due, "what is left", x, 0,
                "0,0,1,0,0,0,0;40,40,1,0,0,0,0;50,0,1,0,0,0,0;");
        due.same("reduce is undoable", x.undo(), 3);
        due.same("all keys are back", x.key(0, EaseCurves.NONE, 0), 5);
        x.lock(0, 2, true);
        due.same("a locked key stays", x.reduce(0, 0), 1);
        due.same("the locked one", x.key(0, 1, 0), 20);
        due.same("nothing more", x.reduce(0, 0), 0);
        due.same("nothing removed is undoable too", x.undo(), 3);
        due.same("all that may be", x.reduce(0, 9999), 1);
        due.same("an empty curve", x.reduce(1, 9999), 0);
        due.refused("curve 4", x, Curves.INDEX, () -> x.reduce(4, -1));
        due.refused("curve -1", x, Curves.INDEX, () -> x.reduce(-1, 0));
        due.refused("tolerance -1", x, Curves.ARGUMENT, () -> x.reduce(0, -1));
        due.refused("tolerance 10000", x, Curves.ARGUMENT, () -> x.reduce(0, 10000));
    }

    private static void reduceByError() {
        // Hold keys: without a key the value before it goes on, so its error is the step.
        EaseCurves x = Curves.read("0,0,0;10,7,0;20,10,0;30,13,0;40,90,0;");
        due.same("error 7", x.error(0, 1), 7);
        due.same("error 3", x.error(0, 2), 3);
        due.same("error 3, too", x.error(0, 3), 3);
        due.same("below the least", x.reduce(0, 2), 0);
        due.same("the first of two, then the other is too far", x.reduce(0, 5), 1);
        Curves.sameKeys(due, "the first is gone", x, 0,
                "0,0,0,0,0,0,0;10,7,0,0,0,0,0;30,13,0,0,0,0,0;40,90,0,0,0,0,0;");
        due.same("just within", x.reduce(0, 6), 1);
        due.same("then 7 is not within 6", x.key(0, EaseCurves.NONE, 0), 3);
        EaseCurves y = Curves.read("0,0,0;10,7,0;20,10,0;30,13,0;40,90,0;");
        due.same("the least first", y.reduce(0, 7), 3);
    }

    // Promise 11
    private static void key() {
        EaseCurves x = Curves.read("10,1,2;20,-5,3lv;30,4,0;");
        long[] wants = {20, -5, 3, 2, 0, 0, 1};
        for (int what = 0; what < wants.length; what++) {
            due.same("what " + what, x.key(0, 1, what), wants[what]);
            due.same("number of keys", x.key(0, EaseCurves.NONE, what), 3);
        }
        x.setTangent(0, 0, 0, 12);
        due.same("slope", x.key(0, 0, 4), 12);
        due.same("tangent", x.key(0, 0, 5), 12);
        due.refused("curve 4", x, Curves.INDEX, () -> x.key(4, 0, 7));
        due.refused("curve -1, NONE", x, Curves.INDEX, () -> x.key(-1, -1, 0));
        due.refused("key 3", x, Curves.INDEX, () -> x.key(0, 3, 7));
        due.refused("key -2", x, Curves.INDEX, () -> x.key(0, -2, 0));
        due.refused("what 7", x, Curves.ARGUMENT, () -> x.key(0, 0, 7));
        due.refused("what -1", x, Curves.ARGUMENT, () -> x.key(0, 0, -1));
        due.refused("NONE, what 7", x, Curves.ARGUMENT, () -> x.key(0, -1, 7));
    }
}
