import java.util.function.Consumer;

/**
 * "A call that throws an exception changes nothing. If several exceptions apply, the one that is
 * listed first is thrown." For each method every exception that it names, in the scene, and every
 * pair of them that can apply at once. In the scene key 1 of curve 0 and key 1 of curve 3 are
 * locked, curve 1 has 16 keys, curve 2 is empty.
 */
public final class RefusalTest {
    private static final Due due = new Due();

    public static void main(String[] args) {
        addKey();
        removeKey();
        setKey();
        moveKey();
        setTangent();
        lock();
        stretch();
        copy();
        copyOffsets();
        reduce();
        key();
        values();
        whatIf();
        append();
        parse();
        undo();
        due.end();
    }

    private static void index(String what, Scene.Act act) {
        Scene.refuses(due, what, Curves.INDEX, act);
    }

    private static void argument(String what, Scene.Act act) {
        Scene.refuses(due, what, Curves.ARGUMENT, act);
    }

    private static void argument(String what, Consumer<EaseCurves> ready, Scene.Act act) {
        Scene.refuses(due, what, Curves.ARGUMENT, ready, act);
    }

    private static void index(String what, Consumer<EaseCurves> ready, Scene.Act act) {
        Scene.refuses(due, what, Curves.INDEX, ready, act);
    }

    private static void state(String what, Scene.Act act) {
        Scene.refuses(due, what, Curves.STATE, act);
    }

    private static void state(String what, Consumer<EaseCurves> ready, Scene.Act act) {
        Scene.refuses(due, what, Curves.STATE, ready, act);
    }

    // Promise 2
    private static void addKey() {
        state("addKey: 16 keys", x -> x.addKey(1, 999, 0, 0));
        state("addKey: 16 keys, and the frame is taken", x -> x.addKey(1, 60, 0, 0));
        state("addKey: the frame of the first key", x -> x.addKey(0, 10, 0, 0));
        state("addKey: the frame of a key between", x -> x.addKey(0, 40, 0, 0));
        state("addKey: the frame of the last key", x -> x.addKey(3, 999, 0, 0));
        argument("addKey: frame before 16 keys", x -> x.addKey(1, 1000, 0, 0));
        argument("addKey: value before 16 keys", x -> x.addKey(1, 999, 10000, 0));
        argument("addKey: ease before 16 keys", x -> x.addKey(1, 999, 0, 6));
        argument("addKey: value before a taken frame", x -> x.addKey(0, 10, -10000, 0));
        argument("addKey: ease before a taken frame", x -> x.addKey(0, 10, 0, -1));
        index("addKey: curve before frame", x -> x.addKey(4, -1, 0, 0));
        index("addKey: curve before value", x -> x.addKey(-1, 0, 10000, 0));
        index("addKey: curve before ease", x -> x.addKey(4, 0, 0, 6));
    }

    // Promise 3
    private static void removeKey() {
        state("removeKey: locked", x -> x.removeKey(0, 1));
        state("removeKey: locked, the last key", x -> x.removeKey(3, 1));
        index("removeKey: neither curve nor key", x -> x.removeKey(4, 4));
    }

    // Promise 4
    private static void setKey() {
        state("setKey: locked", x -> x.setKey(0, 1, 0, 0));
        state("setKey: locked, to what it has", x -> x.setKey(0, 1, 30, 2));
        argument("setKey: value before locked", x -> x.setKey(0, 1, 10000, 0));
        argument("setKey: ease before locked", x -> x.setKey(0, 1, 0, 6));
        index("setKey: curve before value", x -> x.setKey(4, 0, -10000, 0));
        index("setKey: key before value", x -> x.setKey(0, 4, 10000, 0));
        index("setKey: key before ease", x -> x.setKey(2, 0, 0, 6));
    }

    // Promise 5
    private static void moveKey() {
        state("moveKey: locked", x -> x.moveKey(0, 1, 21));
        state("moveKey: locked, to the frame that it has", x -> x.moveKey(0, 1, 20));
        state("moveKey: locked, to a taken frame", x -> x.moveKey(0, 1, 40));
        state("moveKey: the frame of the key before", x -> x.moveKey(0, 3, 40));
        state("moveKey: the frame of the key behind", x -> x.moveKey(0, 2, 60));
        state("moveKey: the frame of a locked key", x -> x.moveKey(0, 0, 20));
        state("moveKey: the frame of the first key", x -> x.moveKey(1, 15, 0));
        argument("moveKey: frame before locked", x -> x.moveKey(0, 1, 1000));
        index("moveKey: curve before frame", x -> x.moveKey(4, 0, -1));
        index("moveKey: key before frame", x -> x.moveKey(0, -1, 1000));
    }

    // Promise 6
    private static void setTangent() {
        state("setTangent: locked", x -> x.setTangent(0, 1, 1, 1));
        state("setTangent: locked, to what it has", x -> x.setTangent(0, 1, 0, 0));
        argument("setTangent: mode before locked", x -> x.setTangent(0, 1, 3, 0));
        argument("setTangent: slope before locked", x -> x.setTangent(0, 1, 0, -100000));
        index("setTangent: curve before mode", x -> x.setTangent(-1, 0, 3, 0));
        index("setTangent: key before mode", x -> x.setTangent(0, 4, -1, 0));
        index("setTangent: key before slope", x -> x.setTangent(0, -1, 0, 100000));
    }

    // Promise 7
    private static void lock() {
        index("lock: neither curve nor key", x -> x.lock(4, 4, true));
        index("lock: no such key", x -> x.lock(2, 0, true));
    }

    // Promise 8
    private static void stretch() {
        state("stretch: a locked key in the span", x -> x.stretch(0, 15, 25, 200));
        state("stretch: a locked key at the end of the span", x -> x.stretch(0, 10, 20, 110));
        state("stretch: a locked key behind the span", x -> x.stretch(3, 900, 998, 99));
        state("stretch: two keys at one frame", RefusalTest::neighbors,
                x -> x.stretch(2, 5, 7, 50));
        state("stretch: a key of the span above 999", x -> x.stretch(1, 60, 901, 200));
        state("stretch: a key behind the span above 999", x -> x.stretch(1, 0, 100, 200));
        argument("stretch: percent before a locked key", x -> x.stretch(0, 15, 25, 501));
        argument("stretch: to before a locked key", x -> x.stretch(0, 15, 1000, 200));
        argument("stretch: from before a locked key", x -> x.stretch(0, -1, 25, 200));
        index("stretch: curve before from", x -> x.stretch(4, -1, 25, 200));
        index("stretch: curve before to", x -> x.stretch(4, 15, 15, 200));
        index("stretch: curve before percent", x -> x.stretch(-1, 15, 25, 9));
    }

    private static void neighbors(EaseCurves x) {
        x.addKey(2, 5, 0, 0);
        x.addKey(2, 6, 0, 0);
    }

    // Promise 9
    private static void copy() {
        state("copy: to a curve with a locked key", x -> x.copy(0, 2, 0));
        state("copy: to a curve whose last key is locked", x -> x.copy(3, 1, 0));
        state("copy: a curve with a locked key to itself", x -> x.copy(0, 0, 0));
        argument("copy: offset before a locked key", x -> x.copy(0, 2, 10000));
        argument("copy: offset before a value", x -> x.copy(2, 1, -10000));
        index("copy: curve before offset", x -> x.copy(4, 2, 10000));
        index("copy: source before offset", x -> x.copy(2, 4, 10000));
        index("copy: source before a locked key", x -> x.copy(0, -1, 0));
        index("copy: curve before a value", x -> x.copy(-1, 1, 1));
    }

    private static void copyOffsets() {
        state("copy: the value of the first key 10000", x -> x.copy(2, 1, 1));
        state("copy: the value of a key between -10000", x -> x.copy(2, 1, -1));
        state("copy: the value of the last key -10000", x -> x.copy(2, 3, -1));
        state("copy: all values too great", x -> x.copy(2, 1, 9999));
        state("copy: all values too small", x -> x.copy(2, 3, -9999));
        state("copy: to itself", x -> x.copy(1, 1, 1));
        state("copy: a value, to a curve with a locked key", x -> x.copy(3, 1, 1));
    }

    // Promise 10
    private static void reduce() {
        index("reduce: curve before tolerance", x -> x.reduce(4, -1));
        argument("reduce: tolerance, a curve without keys", x -> x.reduce(2, 10000));
    }

    // Promise 11
    private static void key() {
        index("key: curve before what", x -> x.key(4, 0, 7));
        index("key: curve before what, NONE", x -> x.key(-1, EaseCurves.NONE, -1));
        index("key: key before what", x -> x.key(0, 4, 7));
        index("key: key before what, the other side", x -> x.key(0, -2, -1));
        argument("key: what, NONE", x -> x.key(0, EaseCurves.NONE, 7));
    }

    // Promises 12 to 17
    private static void values() {
        index("value: curve before frame", x -> x.value(4, 1000));
        index("sum: curve before from", x -> x.sum(4, -1, 5));
        index("sum: curve before to", x -> x.sum(-1, 5, 4));
        index("extreme: curve before from", x -> x.extreme(4, -1, 5, 0));
        index("extreme: curve before to", x -> x.extreme(4, 5, 1000, 0));
        index("extreme: curve before what", x -> x.extreme(-1, 5, 5, 5));
        index("crossings: curve before level", x -> x.crossings(4, 100000));
        index("difference: neither curve", x -> x.difference(-1, 4));
    }

    // Promises 18 to 20
    private static void whatIf() {
        index("error: neither curve nor key", x -> x.error(4, 4));
        index("greatestStretch: curve before from", x -> x.greatestStretch(4, 999, 1000));
        index("greatestStretch: curve before to", x -> x.greatestStretch(-1, 5, 5));
        index("leastEase: neither curve nor key", x -> x.leastEase(4, 4));
        index("leastEase: the last key", x -> x.leastEase(0, 3));
        index("leastEase: the last key, locked", x -> x.leastEase(3, 1));
    }

    // Promise 21
    private static void append() {
        state("append: 150 bytes", RefusalTest::fillText, x -> x.append('0'));
        argument("append: value before 150 bytes", RefusalTest::fillText, x -> x.append(128));
        argument("append: value below 0 before 150 bytes", RefusalTest::fillText,
                x -> x.append(-1));
    }

    private static void fillText(EaseCurves x) {
        Curves.write(x, "0".repeat(150));
    }

    // Promise 23
    private static void parse() {
        state("parse: a locked key", x -> x.parse(0));
        state("parse: a locked last key", x -> x.parse(3));
        state("parse: a locked key, and no text", x -> x.clearText(), x -> x.parse(0));
        index("parse: curve before a syntax error", x -> x.append('!'), x -> x.parse(4));
        EaseCurves x = Scene.make();
        x.append('!');
        due.same("parse: a syntax error before a locked key", x.parse(0), -10 - 15);
    }

    // Promise 24
    private static void undo() {
        Consumer<EaseCurves> four = x -> {
            for (int i = 0; i < 4; i++) {
                x.undo();
            }
        };
        state("undo: no saved state", four, x -> x.undo());
        due.thrown("undo of a new object", Curves.STATE, () -> new EaseCurves().undo());
    }
}
