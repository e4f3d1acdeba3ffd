/** Promises 21 to 23: the curve text. */
public final class TextTest {
    private static final Due due = new Due();

    public static void main(String[] args) {
        append();
        clearText();
        parse();
        parseFaults();
        parseFrames();
        parseManyKeys();
        parseAndState();
        due.end();
    }

    // Promise 21
    private static void append() {
        EaseCurves x = new EaseCurves();
        due.same("byte 0", x.append(0), 1);
        due.same("byte 127", x.append(127), 2);
        due.refused("byte -1", x, Curves.ARGUMENT, () -> x.append(-1));
        due.refused("byte 128", x, Curves.ARGUMENT, () -> x.append(128));
        for (int i = 3; i <= 150; i++) {
            due.same("append", x.append('0'), i);
        }
        due.refused("a full text", x, Curves.STATE, () -> x.append('0'));
        due.refused("a full text, byte 128", x, Curves.ARGUMENT, () -> x.append(128));
        due.refused("append is not undoable", x, Curves.STATE, () -> x.undo());
    }

    // Promise 22
    private static void clearText() {
        EaseCurves x = new EaseCurves();
        due.same("empty", x.clearText(), 0);
        Curves.write(x, "5,5,5;");
        due.same("six bytes", x.clearText(), 6);
        due.same("then none", x.clearText(), 0);
        due.same("then no keys", x.parse(0), 0);
        Curves.write(x, "6,6,5;");
        due.same("new bytes", x.parse(0), 1);
        due.same("the frame", x.key(0, 0, 0), 6);
        due.same("two states", x.undo(), 1);
        due.same("the text outlives undo", x.clearText(), 6);
        Curves.write(x, "6,6,5");
        due.same("the bytes of an older text do not count", x.parse(0), -10 - 5);
    }

    // Promise 23
    private static void parse() {
        EaseCurves x = new EaseCurves();
        Curves.write(x, "000,-0,0;1,-9999,1l;02,0009,2s;10,9999,3v;99,-007,4ls;999,7,5lv;");
        due.same("six keys", x.parse(2), 6);
        Curves.sameKeys(due, "the keys", x, 2, "0,0,0,0,0,0,0;1,-9999,1,0,0,0,1;2,9,2,1,0,"
                + 1000 * (9999 + 9999) / 9 + ",0;10,9999,3,2,0,0,0;99,-7,4,1,0,"
                + 1000 * (7 - 9999) / 989 + ",1;999,7,5,2,0,0,1;");
        due.same("parse is undoable", x.undo(), 0);
        due.same("no keys", x.key(2, EaseCurves.NONE, 0), 0);
        due.same("the text stays", x.parse(1), 6);
        EaseCurves empty = Curves.linear(0, 5, 5);
        due.same("an empty text", empty.parse(0), 0);
        due.same("no keys", empty.key(0, EaseCurves.NONE, 0), 0);
        due.same("undoable", empty.undo(), 1);
        Curves.write(empty, "7,7,1;");
        empty.setTangent(0, 0, 0, 55);
        empty.parse(0);
        due.same("slopes are 0", empty.key(0, 0, 4), 0);
    }

    private static void faultAt(String text, int position) {
        EaseCurves x = Curves.linear(0, 5, 5);
        x.lock(0, 0, true);
        Curves.write(x, text);
        long before = x.digest();
        due.same("parse " + text, x.parse(0), -10 - position);
        due.same("nothing changes by " + text, x.digest(), before);
    }

    private static void parseFaults() {
        String good = "12,-345,5ls;";
        for (int end = 1; end < good.length(); end++) {
            faultAt(good.substring(0, end), end);
        }
        String[] bad = {
            "!", "0!", "00!", "000!", "0000", "0,!", "0,-!", "0,--", "0,+", "0,0!", "0,0-",
            "0,1234!", "0,12345", "0,-12345", "0,0,!", "0,0,6", "0,0,-", "0,0,0!", "0,0,00",
            "0,0,0,", "0,0,0ll", "0,0,0sl", "0,0,0sv", "0,0,0vs", "0,0,0vl", "0,0,0ss", "0,0,0vv",
            "0,0,0lsv", "0,0,0lvl", "0,0,0l0", "0,0,0;;", "0,0,0; ", "0,0,0;-", " ", ",", ";", "-",
            "0 ", "0,,", "0;", "0,0;", "0,0,;", "0,0,/", "0,0,:", "0,/", "0,:", "/", ":", "l",
            "0,0,0L", "0,0,0;l"};
        for (String text : bad) {
            faultAt(text, text.length() - 1);
            faultAt(text + "9", text.length() - 1);
        }
        EaseCurves x = new EaseCurves();
        x.append(0);
        due.same("byte 0", x.parse(0), -10);
        x.clearText();
        x.append(127);
        due.same("byte 127", x.parse(0), -10);
    }

    private static void parseFrames() {
        faultAt("5,0,0;5", 6);
        faultAt("5,0,0;5,0,0;", 6);
        faultAt("5,0,0;4,", 6);
        faultAt("5,0,0;4!", 6);
        faultAt("5,0,0;005", 6);
        faultAt("5,0,0;005;", 6);
        faultAt("5,0,0;0050", 9);
        faultAt("5,0,0;0000", 9);
        faultAt("5,0,0;6", 7);
        faultAt("5,0,0;6!", 7);
        faultAt("5,0,0;50,0,0;7,0,0;", 13);
        faultAt("0,0,0;0,", 6);
        faultAt("999,0,0;999", 8);
        EaseCurves x = Curves.read("5,0,0;0006,0,0;");
        due.same("a fourth digit of a frame", x.parse(0), -10 - 9);
        EaseCurves y = Curves.read("5,0,0;006,0,0;");
        due.same("zeros in front", y.key(0, EaseCurves.NONE, 0), 2);
    }

    private static void parseManyKeys() {
        StringBuilder text = new StringBuilder();
        for (int i = 0; i < 16; i++) {
            text.append(i).append(",0,0;");
        }
        EaseCurves x = Curves.read(text.toString());
        due.same("sixteen keys", x.key(0, EaseCurves.NONE, 0), 16);
        due.same("the last frame", x.key(0, 15, 0), 15);
        faultAt(text + "16,0,0;", text.length());
        faultAt(text + "1", text.length());
        faultAt(text + "!", text.length());
        StringBuilder full = new StringBuilder();
        for (int i = 0; i < 15; i++) {
            full.append(100 + i).append(",-12,0").append(";");
        }
        due.same("a text of 150 bytes is", full.length(), 150);
        due.same("fifteen keys", Curves.read(full.toString()).key(0, EaseCurves.NONE, 0), 15);
    }

    private static void parseAndState() {
        EaseCurves x = Curves.linear(0, 5, 5);
        x.lock(0, 0, true);
        due.refused("a locked key", x, Curves.STATE, () -> x.parse(0));
        due.refused("curve 4", x, Curves.INDEX, () -> x.parse(4));
        due.refused("curve -1", x, Curves.INDEX, () -> x.parse(-1));
        Curves.write(x, "x");
        due.same("the error is answered first", x.parse(0), -10);
        due.refused("curve 4 with an error", x, Curves.INDEX, () -> x.parse(4));
        Curves.write(x, "1,1,1l;");
        due.same("another curve", x.parse(1), 1);
        due.refused("a lock that was read", x, Curves.STATE, () -> x.parse(1));
    }
}
