/** The boundary cases of "Leaving out" in the description, sentence by sentence. */
public final class LeavingOutTest {
    private static final Due due = new Due();

    public static void main(String[] args) {
        ends();
        within();
        eachFrame();
        eachSpan();
        tangents();
        due.end();
    }

    // "A key that is not locked, and neither the first nor the last one of its curve, can be left
    // out"
    private static void ends() {
        for (int count = 0; count <= 16; count++) {
            EaseCurves x = new EaseCurves();
            for (int i = 0; i < count; i++) {
                x.addKey(0, 66 * i, 5, 1);
            }
            int left = Math.min(count, 2);
            due.same("of " + count, x.reduce(0, 0), count - left);
            due.same("are left", x.key(0, EaseCurves.NONE, 0), left);
            if (count > 0) {
                due.same("the first one", x.key(0, 0, 0), 0);
                due.same("the last one", x.key(0, left - 1, 0), 66 * (count - 1));
            }
        }
        EaseCurves locked = new EaseCurves();
        for (int i = 0; i < 16; i++) {
            locked.addKey(0, i, 5, 1);
            locked.lock(0, i, i != 7);
        }
        due.same("one of 16 is not locked", locked.reduce(0, 9999), 1);
        due.same("15 are left", locked.key(0, EaseCurves.NONE, 0), 15);
        due.same("none is left out any more", locked.reduce(0, 9999), 0);
    }

    // "would differ from the present one by at most the tolerance"
    private static void within() {
        for (int step : new int[] {1, 500, 9999}) {
            for (int sign = -1; sign <= 1; sign += 2) {
                EaseCurves x = Curves.read("0,0,0;10," + sign * step + ",0;20,0,0;");
                due.same("error", x.error(0, 1), step);
                due.same("less than " + step, x.reduce(0, step - 1), 0);
                due.same("as much as " + step, x.reduce(0, step), 1);
            }
        }
        EaseCurves far = Curves.read("0,-1,0;10,9999,0;20,0,0;");
        due.same("10000 is beyond each tolerance", far.reduce(0, 9999), 0);
        due.same("the error", far.error(0, 1), 10000);
        EaseCurves farthest = Curves.read("0,9999,0;10,-9999,0;20,0,0;");
        due.same("the widest error", farthest.error(0, 1), 19998);
        due.same("is not left out", farthest.reduce(0, 9999), 0);
    }

    // "the value of the curve at each frame from 0 to 999", "The greatest one of these differences"
    private static void eachFrame() {
        due.same("frame 1 alone", Curves.read("0,0,0;1,5,0;2,0,0;3,9,0;").error(0, 1), 5);
        due.same("frame 998 alone", Curves.read("0,0,0;998,-5,0;999,0,0;").error(0, 1), 5);
        due.same("none", Curves.read("0,4,0;500,4,0;999,0,0;").error(0, 1), 0);
        // Linear from 0 to 9 over 3 frames would be 3 and 6: they differ by 1 and by 2.
        due.same("the later one is greater",
                Curves.read("0,0,0;1,4,1;2,8,1;3,9,0;").error(0, 2), 2);
        due.same("the first one is greater",
                Curves.read("0,0,0;1,9,1;3,0,0;4,0,0;").error(0, 1), 9);
    }

    /** The error is how far the curve is from one that the key is removed from. */
    private static int errorAsWithout(EaseCurves x, int key) {
        x.copy(1, 0, 0);
        x.removeKey(1, key);
        int error = x.error(0, key);
        due.same("error of key " + key, error, x.difference(0, 1));
        return error;
    }

    private static void eachSpan() {
        // Without key 1 the first span is as long again, and most differs before key 1.
        EaseCurves first = Curves.read("0,0,5;100,0,0;200,0,0;");
        first.setTangent(0, 0, 0, 99999);
        due.same("before the frame of key 1", errorAsWithout(first, 1) > 2500 ? 1 : 0, 1);
        EaseCurves last = Curves.read("0,0,0;799,0,5;899,0,5;999,0,0;");
        last.setTangent(0, 3, 0, -99999);
        due.same("behind the frame of key 2", errorAsWithout(last, 2) > 2500 ? 1 : 0, 1);
        EaseCurves x = new EaseCurves();
        for (int i = 0; i < 16; i++) {
            x.addKey(0, i * (i + 40), 9999 - 997 * i * i % 5003, i % 2 == 0 ? 5 : i % 6);
            x.setTangent(0, i, i % 3, 4999 - 9999 * (i % 2));
        }
        for (int key = 1; key < 15; key++) {
            errorAsWithout(x, key);
        }
    }

    // "(The other keys stay as they are, but their tangents can be others by the modes.)"
    private static void tangents() {
        // The tangent of key 1 goes from 49 to 99 without key 2, where the curve comes from far.
        EaseCurves x = Curves.read("0,0,5;990,0,1s;991,49,1;992,99,1;");
        due.same("in the span before the neighbor", errorAsWithout(x, 2), 8);
        // The tangent of key 2 goes from 49 to 99 without key 1, where the curve goes on far.
        EaseCurves y = Curves.read("0,0,1;1,50,1;2,99,5s;992,99,0;");
        due.same("in the span behind the neighbor", errorAsWithout(y, 1), 8);
        due.same("not within 7", y.reduce(0, 7), 0);
        due.same("within 8", y.reduce(0, 8), 1);
        due.same("the mode stays", y.key(0, 1, 3), 1);
        // Key 2 is a turn by the equal value of key 1 alone: without it m is 100.
        EaseCurves z = Curves.read("0,98,1;1,99,1;2,99,5v;992,200,0;");
        due.same("a turn", z.key(0, 2, 5), 0);
        due.same("farther than at its own frame", errorAsWithout(z, 1) > 1 ? 1 : 0, 1);
        due.same("no turn without key 1", z.key(1, 1, 5), 102);
    }
}
