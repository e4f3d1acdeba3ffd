/** Short ways for the tests to fill and look at curves. */
final class Curves {
    static final Class<IndexOutOfBoundsException> INDEX = IndexOutOfBoundsException.class;
    static final Class<IllegalArgumentException> ARGUMENT = IllegalArgumentException.class;
    static final Class<IllegalStateException> STATE = IllegalStateException.class;

    private Curves() {
    }

    /** An object whose curve has keys at these frames, with these values, linear. */
    static EaseCurves linear(int curve, int... framesAndValues) {
        EaseCurves x = new EaseCurves();
        for (int i = 0; i + 1 < framesAndValues.length; i += 2) {
            x.addKey(curve, framesAndValues[i], framesAndValues[i + 1], 1);
        }
        return x;
    }

    /** An object whose curve 0 is read from a text. */
    static EaseCurves read(String text) {
        EaseCurves x = new EaseCurves();
        write(x, text);
        x.parse(0);
        return x;
    }

    /** Makes the curve text this one. */
    static void write(EaseCurves x, String text) {
        x.clearText();
        for (int i = 0; i < text.length(); i++) {
            x.append(text.charAt(i));
        }
    }

    /** All keys of a curve, a line: frame,value,ease,mode,slope,tangent,locked; for each. */
    static String keys(EaseCurves x, int curve) {
        StringBuilder all = new StringBuilder();
        int count = x.key(curve, EaseCurves.NONE, 0);
        for (int key = 0; key < count; key++) {
            for (int what = 0; what <= 6; what++) {
                all.append(x.key(curve, key, what)).append(what < 6 ? "," : ";");
            }
        }
        return all.toString();
    }

    static void sameKeys(Due due, String what, EaseCurves x, int curve, String want) {
        String got = keys(x, curve);
        if (!got.equals(want)) {
            due.miss(what + ": keys are " + got + ", due are " + want);
        }
        due.same(what + ": number of keys", x.key(curve, EaseCurves.NONE, 0),
                want.chars().filter(c -> c == ';').count());
    }
}
