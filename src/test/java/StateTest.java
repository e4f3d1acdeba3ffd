/** Promises 24 and 25: undo and digest. */
public final class StateTest {
    private static final Due due = new Due();

    public static void main(String[] args) {
        undo();
        undoOldest();
        undoAllCurves();
        notUndoable();
        digest();
        digestOfParts();
        due.end();
    }

    // Promise 24
    private static void undo() {
        EaseCurves x = new EaseCurves();
        due.refused("nothing saved", x, Curves.STATE, () -> x.undo());
        x.addKey(0, 1, 1, 1);
        x.addKey(0, 2, 2, 2);
        due.same("one remains", x.undo(), 1);
        Curves.sameKeys(due, "one key", x, 0, "1,1,1,0,0,0,0;");
        due.same("none remains", x.undo(), 0);
        Curves.sameKeys(due, "no key", x, 0, "");
        due.refused("nothing saved any more", x, Curves.STATE, () -> x.undo());
        x.addKey(0, 3, 3, 3);
        due.same("saved again", x.undo(), 0);
    }

    private static void undoOldest() {
        EaseCurves x = new EaseCurves();
        for (int i = 0; i < 11; i++) {
            x.addKey(0, i, i, 0);
        }
        for (int i = 3; i >= 0; i--) {
            due.same("states that remain", x.undo(), i);
            due.same("keys then", x.key(0, EaseCurves.NONE, 0), 7 + i);
        }
        due.refused("a fifth undo", x, Curves.STATE, () -> x.undo());
        x.removeKey(0, 0);
        due.same("saved anew", x.undo(), 0);
        due.same("keys then", x.key(0, EaseCurves.NONE, 0), 7);
    }

    private static void undoAllCurves() {
        EaseCurves x = new EaseCurves();
        for (int c = 0; c < 4; c++) {
            x.addKey(c, 10 + c, c, c);
        }
        for (int c = 3; c > 0; c--) {
            x.undo();
            due.same("the curve", x.key(c, EaseCurves.NONE, 0), 0);
            due.same("the one before", x.key(c - 1, EaseCurves.NONE, 0), 1);
        }
        Curves.write(x, "1,1,1;");
        due.same("undo leaves the text", x.undo(), 0);
        due.same("six bytes", x.clearText(), 6);
    }

    private static void notUndoable() {
        EaseCurves x = Curves.linear(0, 0, 0, 10, 9, 20, 0);
        x.key(0, 0, 0);
        x.value(0, 0);
        x.sum(0, 0, 9);
        x.extreme(0, 0, 9, 0);
        x.crossings(0, 5);
        x.difference(0, 1);
        x.mean(0);
        x.error(0, 1);
        x.greatestStretch(0, 0, 9);
        x.leastEase(0, 0);
        x.append('x');
        x.parse(0);
        x.clearText();
        x.digest();
        due.same("only the keys were saved", x.undo(), 2);
    }

    // Promise 25
    private static long hash(long... values) {
        long h = 3323;
        for (long v : values) {
            h = 31 * h + v;
        }
        return h;
    }

    private static void digest() {
        EaseCurves x = new EaseCurves();
        long[] empty = new long[1 + 4 * (1 + 28) + 1];
        due.same("a new object", x.digest(), hash(empty));
        x.append('1');
        x.append('2');
        empty[0] = 2;
        due.same("with a text", x.digest(), hash(empty));
        x.lock(0, x.addKey(0, 37, -9, 3), true);
        x.clearText();
        long[] one = new long[empty.length + 7];
        one[1] = 1;
        long[] told = {37, -9, 3, 0, 0, 0, 1};
        System.arraycopy(told, 0, one, 2, 7);
        java.util.Arrays.fill(one, 9, 9 + 28, -9);
        one[one.length - 1] = 2;
        due.same("with a key", x.digest(), hash(one));
        x.undo();
        one[8] = 0;
        one[one.length - 1] = 1;
        due.same("after undo", x.digest(), hash(one));
    }

    private static void digestOfParts() {
        EaseCurves x = Curves.read("0,5,1;36,100,5s;999,-100,2v;");
        x.addKey(3, 500, 7, 4);
        x.setTangent(0, 1, 2, -5);
        java.util.ArrayList<Long> all = new java.util.ArrayList<>();
        all.add(28L);
        for (int c = 0; c < 4; c++) {
            int count = x.key(c, EaseCurves.NONE, 0);
            all.add((long) count);
            for (int k = 0; k < count; k++) {
                for (int what = 0; what <= 6; what++) {
                    all.add((long) x.key(c, k, what));
                }
            }
            for (int f = 0; f <= 999; f += 37) {
                all.add((long) x.value(c, f));
            }
        }
        all.add(3L);
        long[] values = all.stream().mapToLong(Long::longValue).toArray();
        due.same("by what the calls answer", x.digest(), hash(values));
    }
}
