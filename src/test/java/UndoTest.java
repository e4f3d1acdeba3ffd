/** The boundary cases of "Undo" in the description, sentence by sentence. */
public final class UndoTest {
    private static final Due due = new Due();

    // Calls that change the scene, whose key 1 of curve 0 and key 1 of curve 3 are locked.
    private static final Scene.Act[] CHANGES = {
        x -> x.addKey(2, 0, 0, 0), x -> x.addKey(0, 999, 9, 3), x -> x.removeKey(0, 0),
        x -> x.removeKey(1, 15), x -> x.setKey(0, 0, -6, 5), x -> x.setKey(0, 0, -5, 4),
        x -> x.moveKey(1, 0, 999), x -> x.moveKey(3, 0, 501), x -> x.setTangent(0, 0, 2, 0),
        x -> x.setTangent(0, 0, 1, 1), x -> x.lock(3, 1, false), x -> x.lock(1, 8, true),
        x -> x.stretch(1, 0, 900, 50), x -> x.stretch(0, 20, 40, 200), x -> x.copy(1, 3, 5),
        x -> x.copy(2, 0, -1), x -> x.copy(1, 2, 0), x -> x.reduce(1, 9999),
        x -> x.parse(1), x -> x.parse(2)};

    // Calls that are undoable and change nothing, where curve 0 has the keys 10,1,2;20,5,3; and
    // curves 2 and 3 are empty; the text is that of curve 0.
    private static final Scene.Act[] NO_CHANGES = {
        x -> x.setKey(0, 0, 1, 2), x -> x.moveKey(0, 1, 20), x -> x.setTangent(0, 0, 0, 0),
        x -> x.lock(0, 0, false), x -> x.stretch(0, 0, 999, 100), x -> x.stretch(2, 0, 1, 10),
        x -> x.stretch(0, 21, 22, 500), x -> x.copy(0, 0, 0), x -> x.copy(2, 3, 9999),
        x -> x.reduce(0, 9999), x -> x.reduce(2, 0), x -> x.parse(0)};

    // Calls that only look.
    private static final Scene.Act[] LOOKS = {
        x -> x.key(0, 0, 5), x -> x.key(0, EaseCurves.NONE, 0), x -> x.value(0, 15),
        x -> x.sum(0, 0, 999), x -> x.extreme(0, 0, 999, 4), x -> x.crossings(0, 5),
        x -> x.difference(0, 1), x -> (long) x.mean(0), x -> x.error(0, 0), x -> x.error(0, 1),
        x -> x.greatestStretch(0, 0, 9), x -> x.leastEase(0, 1), x -> x.digest()};

    public static void main(String[] args) {
        restoresAll();
        savesWhatDoesNotChange();
        savesOnlySuccess();
        savesOnlyUndoable();
        changesByNoOtherCall();
        atMostFour();
        dropsTheOldestFirst();
        goesOnAfterUndo();
        leavesTheText();
        sparesTheSavedStates();
        due.end();
    }

    private static void same(String what, long got, long want) {
        due.same(what, got, want);
    }

    // "saves the state from before the call [..] The saved state contains everything"
    private static void restoresAll() {
        for (int i = 0; i < CHANGES.length; i++) {
            EaseCurves x = Scene.make();
            x.undo();
            long before = x.digest();
            CHANGES[i].on(x);
            same("change " + i + " is one", x.digest() == before ? 0 : 1, 1);
            same("states before change " + i, x.undo(), 3);
            same("all is back after change " + i, x.digest(), before);
        }
        EaseCurves x = Scene.make();
        EaseCurves untouched = Scene.make();
        x.undo();
        untouched.undo();
        CHANGES[0].on(x);
        x.undo();
        same("the states before stay", Scene.whole(x).equals(Scene.whole(untouched)) ? 1 : 0, 1);
    }

    // "even if the call changes nothing"
    private static void savesWhatDoesNotChange() {
        for (int i = 0; i < NO_CHANGES.length; i++) {
            EaseCurves x = Curves.read("10,1,2;20,5,3;");
            String keys = Curves.keys(x, 0);
            NO_CHANGES[i].on(x);
            Curves.sameKeys(due, "no change " + i, x, 0, keys);
            same("undo of no change " + i, x.undo(), 1);
            Curves.sameKeys(due, "undone no change " + i, x, 0, keys);
            same("undo of what was before " + i, x.undo(), 0);
        }
        EaseCurves x = new EaseCurves();
        x.parse(3);
        same("no text to a curve without keys", x.undo(), 0);
    }

    // "Each successful call": none that throws, and no parse that answers a fault.
    private static void savesOnlySuccess() {
        EaseCurves x = Curves.linear(0, 5, 5);
        x.lock(0, 0, true);
        Scene.Act[] refused = {
            y -> y.addKey(0, 5, 0, 0), y -> y.removeKey(0, 0), y -> y.setKey(0, 0, 0, 0),
            y -> y.moveKey(0, 0, 6), y -> y.setTangent(0, 0, 0, 0), y -> y.lock(0, 1, true),
            y -> y.stretch(0, 0, 5, 200), y -> y.copy(0, 1, 0), y -> y.reduce(0, -1),
            y -> y.parse(0)};
        for (Scene.Act act : refused) {
            due.refused("a refused call", x, act == refused[5] ? Curves.INDEX
                    : act == refused[8] ? Curves.ARGUMENT : Curves.STATE, () -> act.on(x));
        }
        x.append('x');
        same("a fault", x.parse(1), -10);
        same("only the two calls were saved", x.undo(), 1);
    }

    // "whose description says "undoable""
    private static void savesOnlyUndoable() {
        EaseCurves x = Curves.read("0,0,0;10,9,1;20,0,2;");
        for (Scene.Act act : LOOKS) {
            act.on(x);
        }
        x.append('x');
        x.clearText();
        same("only parse was saved", x.undo(), 0);
        due.refused("undo does not save", x, Curves.STATE, () -> x.undo());
    }

    // "what if" and the other calls that are not undoable only look.
    private static void changesByNoOtherCall() {
        for (int i = 0; i < LOOKS.length; i++) {
            EaseCurves x = Scene.make();
            LOOKS[i].on(x);
            same("look " + i + " changes nothing",
                    Scene.whole(x).equals(Scene.whole(Scene.make())) ? 1 : 0, 1);
        }
    }

    // "at most 4 states are saved"
    private static void atMostFour() {
        for (int calls = 0; calls <= 9; calls++) {
            EaseCurves x = new EaseCurves();
            for (int i = 0; i < calls; i++) {
                x.addKey(i % 4, i, i, 0);
            }
            for (int left = Math.min(calls, 4) - 1; left >= 0; left--) {
                same("states that remain of " + calls, x.undo(), left);
            }
            due.refused("no state of " + calls, x, Curves.STATE, () -> x.undo());
        }
    }

    // "and the oldest is dropped first"
    private static void dropsTheOldestFirst() {
        for (int calls = 1; calls <= 13; calls++) {
            EaseCurves x = new EaseCurves();
            for (int i = 0; i < calls; i++) {
                x.addKey(0, i, i, 0);
            }
            for (int keys = calls - 1; keys >= Math.max(calls - 4, 0); keys--) {
                x.undo();
                same("keys of " + calls, x.key(0, EaseCurves.NONE, 0), keys);
            }
        }
    }

    // "Restores the most recently saved state and removes it from the saved states."
    private static void goesOnAfterUndo() {
        EaseCurves x = new EaseCurves();
        for (int i = 0; i < 6; i++) {
            x.addKey(0, i, i, 0);
        }
        x.undo();
        same("two of four remain", x.undo(), 2);
        for (int i = 0; i < 3; i++) {
            x.addKey(0, 900 + i, i, 0);
        }
        int[] keys = {6, 5, 4, 3};
        for (int i = 0; i < 4; i++) {
            same("the count of states", x.undo(), 3 - i);
            same("keys of state " + i, x.key(0, EaseCurves.NONE, 0), keys[i]);
        }
        due.refused("none remains", x, Curves.STATE, () -> x.undo());
        same("three keys are left", x.key(0, EaseCurves.NONE, 0), 3);
    }

    // "everything except the curve text"
    private static void leavesTheText() {
        EaseCurves x = new EaseCurves();
        Curves.write(x, "1,1,1;");
        x.addKey(0, 5, 5, 5);
        Curves.write(x, "2,2,2;3,3,3;");
        x.undo();
        same("the later text", x.parse(1), 2);
        Curves.sameKeys(due, "its keys", x, 1, "2,2,2,0,0,0,0;3,3,3,0,0,0,0;");
        x.clearText();
        x.undo();
        same("a text that is cleared stays so", x.clearText(), 0);
        Curves.write(x, "7");
        x.addKey(0, 5, 5, 5);
        x.append(',');
        x.undo();
        same("a byte that was appended stays", x.append('7'), 3);
    }

    /** A saved state is its own: what follows does not reach it. */
    private static void sparesTheSavedStates() {
        EaseCurves x = Curves.read("10,1,2;20,5,3;");
        x.setKey(0, 0, 2, 2);
        x.setKey(0, 0, 3, 2);
        x.removeKey(0, 1);
        x.undo();
        same("the third value", x.key(0, 0, 1), 3);
        x.undo();
        same("the second value", x.key(0, 0, 1), 2);
        x.setKey(0, 0, 99, 2);
        x.undo();
        same("the second value again", x.key(0, 0, 1), 2);
        x.undo();
        same("the first value", x.key(0, 0, 1), 1);
        same("both keys", x.key(0, EaseCurves.NONE, 0), 2);
    }
}
