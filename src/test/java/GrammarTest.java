/** The boundary cases of "Curve text" in the description, sentence by sentence. */
public final class GrammarTest {
    private static final Due due = new Due();
    private static final String DIGITS = "0123456789";
    private static final String COMMA = ",";

    public static void main(String[] args) {
        length();
        emptyText();
        firstFrame();
        value();
        ease();
        letters();
        behindTheSemicolon();
        laterFrames();
        framesThatAreNotGreater();
        longFramesThatAreNotGreater();
        firstFaultCounts();
        numbers();
        keysOfLetters();
        noSpaces();
        endsTooEarly();
        sixteenKeys();
        seventeenthKey();
        wholeTexts();
        textStays();
        faultsChangeNothing();
        due.end();
    }

    private static int parsed(String text) {
        EaseCurves x = new EaseCurves();
        Curves.write(x, text);
        return x.parse(0);
    }

    /**
     * Behind the text that begins so, just these bytes can stand; each other one is a fault at its
     * own place, whatever follows. Where the text ends there, it ends too early.
     */
    private static void canFollow(String start, String allowed) {
        canFollow(start, allowed, start.length(), -10 - start.length());
    }

    private static void canFollow(String start, String allowed, int fault, int atEnd) {
        for (char sign = 0; sign < 128; sign++) {
            int got = parsed(start + sign);
            String what = "'" + start + "' and byte " + (int) sign;
            if (allowed.indexOf(sign) < 0) {
                due.same(what, got, -10 - fault);
                due.same(what + " and more", parsed(start + sign + "1,1;"), -10 - fault);
            } else {
                // A first digit alone can be a frame that is not greater; with 99 behind it is.
                boolean refused = got == -10 - start.length()
                        && parsed(start + sign + "99,") == -10 - start.length();
                due.same(what + " can stand", refused ? 0 : 1, 1);
            }
        }
        due.same("'" + start + "' alone", parsed(start), atEnd);
    }

    // "The text has at most 150 bytes."
    private static void length() {
        EaseCurves x = new EaseCurves();
        for (int i = 1; i <= 150; i++) {
            due.same("length", x.append(i % 128), i);
        }
        due.refused("byte 151", x, Curves.STATE, () -> x.append(0));
        due.same("150 bytes are emptied", x.clearText(), 150);
        due.same("the first byte again", x.append(127), 1);
        due.same("one byte is emptied", x.clearText(), 1);
        due.same("none is emptied", x.clearText(), 0);
    }

    // "there may be no keys"
    private static void emptyText() {
        due.same("an empty text", parsed(""), 0);
        EaseCurves x = Curves.read("1,1,1;2,2,2;");
        x.clearText();
        due.same("an empty text makes a curve without keys", x.parse(0), 0);
        due.same("no keys", x.key(0, EaseCurves.NONE, 0), 0);
        due.same("it is undoable", x.undo(), 1);
        due.same("two keys", x.key(0, EaseCurves.NONE, 0), 2);
    }

    // "the frame (one to three digits), a comma"
    private static void firstFrame() {
        canFollow("", DIGITS, 0, 0);
        for (String frame : new String[] {"0", "9", "00", "10", "99"}) {
            canFollow(frame, DIGITS + COMMA);
        }
        for (String frame : new String[] {"000", "009", "999"}) {
            canFollow(frame, COMMA);
        }
    }

    // "the value ("-" and digits, or digits; one to four), a comma"
    private static void value() {
        canFollow("5,", "-" + DIGITS);
        canFollow("5,-", DIGITS);
        for (String sign : new String[] {"", "-"}) {
            for (String digits : new String[] {"0", "9", "00", "12", "000", "999"}) {
                canFollow("5," + sign + digits, DIGITS + COMMA);
            }
            canFollow("5," + sign + "0000", COMMA);
            canFollow("5," + sign + "9999", COMMA);
        }
    }

    // "the ease (one digit 0 to 5)"
    private static void ease() {
        canFollow("5,5,", "012345");
        for (char ease = '0'; ease <= '5'; ease++) {
            canFollow("5,5," + ease, "lsv;");
        }
    }

    // "optionally the letter [..] (so nothing, "l", "s", "v", "ls" or "lv")", "each terminated by
    // a semicolon"
    private static void letters() {
        canFollow("5,5,5l", "sv;");
        for (String letters : new String[] {"s", "v", "ls", "lv"}) {
            canFollow("5,5,5" + letters, ";");
        }
    }

    private static void behindTheSemicolon() {
        for (String letters : new String[] {"", "l", "s", "v", "ls", "lv"}) {
            canFollow("5,5,5" + letters + ";", DIGITS, 6 + letters.length(), 1);
        }
        canFollow("5,5,5;6,6,0;", DIGITS, 12, 2);
    }

    private static void laterFrames() {
        for (String frame : new String[] {"6", "06", "10", "50"}) {
            canFollow("5,0,0;" + frame, DIGITS + COMMA);
        }
        for (String frame : new String[] {"006", "500", "999"}) {
            canFollow("5,0,0;" + frame, COMMA);
        }
        canFollow("5,0,0;6,", "-" + DIGITS);
    }

    // "For a frame that is not greater than that of the key before it in the text, it is the index
    // of its first digit, found when a byte that is no digit, whichever it is, or the end of the
    // text, follows it."
    private static void framesThatAreNotGreater() {
        for (String frame : new String[] {"0", "4", "5", "00", "04", "05"}) {
            canFollow("5,0,0;" + frame, DIGITS, 6, -10 - 6);
        }
        for (String frame : new String[] {"49", "50"}) {
            canFollow("50,-1,5lv;" + frame, DIGITS, 10, -10 - 10);
        }
        canFollow("0,0,0;0", DIGITS, 6, -10 - 6);
        canFollow("1,0,0;3,0,0;2", DIGITS, 12, -10 - 12);
        canFollow("999,0,0;99", DIGITS, 8, -10 - 8);
    }

    // The same, and "a digit too many": behind three digits it is the digit that cannot stand.
    private static void longFramesThatAreNotGreater() {
        for (String frame : new String[] {"000", "004", "005"}) {
            String start = "5,0,0;" + frame;
            for (char sign = 0; sign < 128; sign++) {
                due.same(start + " and byte " + (int) sign, parsed(start + sign),
                        DIGITS.indexOf(sign) < 0 ? -10 - 6 : -10 - 9);
            }
            due.same(start + " alone", parsed(start), -10 - 6);
        }
        due.same("999 behind 999", parsed("999,0,0;999,"), -10 - 8);
        due.same("9990 behind 999", parsed("999,0,0;9990"), -10 - 11);
    }

    // "the index of the first byte that cannot stand where it stands"
    private static void firstFaultCounts() {
        due.same("a frame, and a wrong byte behind it", parsed("5,0,0;4,x"), -10 - 6);
        due.same("a wrong byte, and a frame behind it", parsed("5,0,6;4,0,0;"), -10 - 4);
        due.same("two frames", parsed("5,0,0;4,0,0;3,0,0;"), -10 - 6);
        due.same("greater than the one before, less than the first",
                parsed("5,0,0;4,0,0;5,0,0;"), -10 - 6);
        due.same("two wrong bytes", parsed("5;0;0"), -10 - 1);
    }

    private static void oneKey(String text, String key) {
        EaseCurves x = Curves.linear(0, 500, 5);
        Curves.write(x, text);
        due.same("keys of " + text, x.parse(0), 1);
        Curves.sameKeys(due, text, x, 0, key);
    }

    // "Numbers can have zeros in front; "-0" is 0."
    private static void numbers() {
        for (String zero : new String[] {"0", "00", "000"}) {
            oneKey(zero + ",0,0;", "0,0,0,0,0,0,0;");
        }
        for (String zero : new String[] {"0", "-0", "00", "-00", "000", "-000", "0000", "-0000"}) {
            oneKey("1," + zero + ",1;", "1,0,1,0,0,0,0;");
        }
        oneKey("007,0008,0;", "7,8,0,0,0,0,0;");
        oneKey("070,-0080,2;", "70,-80,2,0,0,0,0;");
        oneKey("999,9999,5;", "999,9999,5,0,0,0,0;");
        oneKey("999,-9999,5;", "999,-9999,5,0,0,0,0;");
        oneKey("123,4567,3;", "123,4567,3,0,0,0,0;");
    }

    // ""l" for a locked key, "s" for the tangent mode 1, or "v" for the tangent mode 2"
    private static void keysOfLetters() {
        oneKey("1,2,3;", "1,2,3,0,0,0,0;");
        oneKey("1,2,3l;", "1,2,3,0,0,0,1;");
        oneKey("1,2,3s;", "1,2,3,1,0,0,0;");
        oneKey("1,2,3v;", "1,2,3,2,0,0,0;");
        oneKey("1,2,3ls;", "1,2,3,1,0,0,1;");
        oneKey("1,2,3lv;", "1,2,3,2,0,0,1;");
    }

    // "There are no spaces"
    private static void noSpaces() {
        String good = "1,-34,5lv;678,9,0;";
        due.same("two keys", parsed(good), 2);
        for (int i = 0; i <= good.length(); i++) {
            due.same("a space at " + i, parsed(good.substring(0, i) + " " + good.substring(i)),
                    -10 - i);
        }
    }

    // "or the length of the text if the text ends too early"
    private static void endsTooEarly() {
        String good = "12,-34,5lv;99,9,0ls;";
        for (int i = 0; i <= good.length(); i++) {
            String begun = good.substring(0, i);
            int want = -10 - i;
            if (begun.isEmpty() || begun.endsWith(";")) {
                want = (int) begun.chars().filter(c -> c == ';').count();
            } else if (begun.endsWith(";9")) {
                // A frame 9 is not greater than 12.
                want = -10 - (i - 1);
            }
            due.same("the first " + i + " bytes", parsed(begun), want);
        }
    }

    private static String keys(int count) {
        StringBuilder text = new StringBuilder();
        for (int i = 0; i < count; i++) {
            text.append(i).append(",0,0;");
        }
        return text.toString();
    }

    private static void sixteenKeys() {
        for (int count = 0; count <= 16; count++) {
            EaseCurves x = new EaseCurves();
            Curves.write(x, keys(count));
            due.same(count + " keys", x.parse(3), count);
            due.same("the number of keys", x.key(3, EaseCurves.NONE, 0), count);
            if (count > 0) {
                due.same("the last frame", x.key(3, count - 1, 0), count - 1);
            }
        }
        String fifteen = keys(15);
        canFollow(fifteen, DIGITS, fifteen.length(), 15);
        due.same("a 16th key that is not greater", parsed(fifteen + "14,0,0;"),
                -10 - fifteen.length());
    }

    // "the first digit of a 17th key, too"
    private static void seventeenthKey() {
        String sixteen = keys(16);
        canFollow(sixteen, "", sixteen.length(), 16);
        due.same("a whole 17th key", parsed(sixteen + "16,0,0;"), -10 - sixteen.length());
        due.same("a 17th key that is not greater", parsed(sixteen + "15,0,0;"),
                -10 - sixteen.length());
    }

    private static void wholeTexts() {
        StringBuilder text = new StringBuilder();
        for (int i = 0; i < 15; i++) {
            text.append(100 + i).append(",-12,0;");
        }
        due.same("150 bytes", text.length(), 150);
        due.same("15 keys of 150 bytes", parsed(text.toString()), 15);
        text.setCharAt(149, '!');
        due.same("a wrong byte 149", parsed(text.toString()), -10 - 149);
        text.setCharAt(149, 'l');
        due.same("150 bytes that end too early", parsed(text.toString()), -10 - 150);
        due.same("149 bytes that end too early", parsed(text.substring(0, 149)), -10 - 149);
        due.same("a wrong byte 0", parsed("!" + text.substring(1)), -10);
    }

    // "The text stays as it is. Undoable, if there is no syntax error."
    private static void textStays() {
        EaseCurves x = new EaseCurves();
        Curves.write(x, "7,7,1;");
        for (int c = 0; c < 4; c++) {
            due.same("curve " + c, x.parse(c), 1);
        }
        x.append('7');
        for (int c = 0; c < 4; c++) {
            due.same("the fault, curve " + c, x.parse(c), -10 - 6);
        }
        due.same("length", x.clearText(), 7);
        due.same("four states", x.undo(), 3);
        Curves.write(x, "9,9,1l;");
        due.same("a locked key is read", x.parse(0), 1);
        due.refused("and refuses", x, Curves.STATE, () -> x.parse(0));
        x.append('!');
        due.same("but not the fault", x.parse(0), -10 - 7);
    }

    // "if there is a syntax error (then nothing changes)"
    private static void faultsChangeNothing() {
        for (int c = 0; c < 4; c++) {
            EaseCurves x = Scene.make();
            EaseCurves untouched = Scene.make();
            x.append('!');
            untouched.append('!');
            due.same("two good keys and a fault", x.parse(c), -10 - 15);
            due.same("nothing changes",
                    Scene.whole(x).equals(Scene.whole(untouched)) ? 1 : 0, 1);
        }
    }
}
