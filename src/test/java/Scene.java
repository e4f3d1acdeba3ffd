import java.util.function.Consumer;

/** An object in which all that a call could spoil is there, and what can be seen of it. */
final class Scene {
    /** A call on the object that is looked at. */
    interface Act {
        long on(EaseCurves x);
    }

    private Scene() {
    }

    /**
     * Curve 0 has four keys, of which key 1 is locked; curve 1 has 16 keys, with both the greatest
     * and the least value; curve 2 is empty; curve 3 has two keys, of which key 1 is locked. The
     * text has two keys, and four different states are saved, in all of which curve 2 is empty.
     */
    static EaseCurves make() {
        EaseCurves x = new EaseCurves();
        for (int i = 0; i < 16; i++) {
            x.addKey(1, 60 * i, 9999 - i, i % 6);
        }
        x.addKey(3, 500, 3, 3);
        x.addKey(3, 999, -9999, 4);
        x.lock(3, 1, true);
        Curves.write(x, "10,-5,5s;20,30,2l;40,7,1;60,50,5v;");
        x.parse(0);
        x.setTangent(0, 2, 0, 55);
        x.setTangent(1, 4, 1, -77);
        x.setKey(1, 5, -9999, 5);
        x.moveKey(1, 15, 901);
        Curves.write(x, "7,7,1l;8,-8,5s;");
        return x;
    }

    /** The state, all saved states and the text, by calls that use them up. */
    static String whole(EaseCurves x) {
        StringBuilder all = new StringBuilder();
        boolean more = true;
        // At most 4 states are saved; a fifth one would be seen here, too.
        for (int i = 0; i <= 5 && more; i++) {
            all.append(x.digest()).append(' ');
            more = goesBack(x);
        }
        all.append(x.parse(2)).append(' ').append(x.digest()).append(' ').append(x.clearText());
        return all.toString();
    }

    private static boolean goesBack(EaseCurves x) {
        try {
            x.undo();
            return true;
        } catch (IllegalStateException e) {
            return false;
        }
    }

    /** The call throws just this exception in the scene, and nothing is changed by it. */
    static void refuses(Due due, String what, Class<? extends RuntimeException> want, Act act) {
        refuses(due, what, want, x -> { }, act);
    }

    /** The same in a scene that is made ready for it. */
    static void refuses(Due due, String what, Class<? extends RuntimeException> want,
            Consumer<EaseCurves> ready, Act act) {
        EaseCurves x = make();
        EaseCurves untouched = make();
        ready.accept(x);
        ready.accept(untouched);
        due.thrown(what, want, () -> act.on(x));
        due.same(what + " changes nothing", whole(x).equals(whole(untouched)) ? 1 : 0, 1);
    }

    /** The call answers in the scene. */
    static void answers(Due due, String what, long want, Act act) {
        EaseCurves x = make();
        due.answered(what, want, () -> act.on(x));
    }
}
