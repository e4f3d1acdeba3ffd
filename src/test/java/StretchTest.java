/** The boundary cases of "Stretching" in the description, sentence by sentence. */
public final class StretchTest {
    private static final Due due = new Due();

    public static void main(String[] args) {
        frames();
        rounds();
        theRestStays();
        locks();
        together();
        tooFar();
        due.end();
    }

    private static EaseCurves at(int... frames) {
        EaseCurves x = new EaseCurves();
        for (int frame : frames) {
            x.addKey(0, frame, frame, 1);
        }
        return x;
    }

    /** The span from x to y of keys at the first frames, stretched, gives keys at the others. */
    private static void stretches(int x, int y, int percent, int[] before, int[] after) {
        EaseCurves object = at(before);
        String what = "from " + x + " to " + y + " by " + percent;
        int changed = 0;
        due.same(what + " begins with", object.key(0, EaseCurves.NONE, 0), after.length);
        for (int i = 0; i < before.length; i++) {
            changed += before[i] == after[i] ? 0 : 1;
        }
        due.same(what, object.stretch(0, x, y, percent), changed);
        for (int i = 0; i < after.length; i++) {
            due.same(what + ", key " + i, object.key(0, i, 0), after[i]);
            due.same(what + ", value " + i, object.key(0, i, 1), before[i]);
        }
    }

    private static void stretchFails(String what, int x, int y, int percent, int... frames) {
        EaseCurves object = at(frames);
        due.refused(what, object, Curves.STATE, () -> object.stretch(0, x, y, percent));
    }

    // "A key with a frame f from x to y gets the frame x + (f - x) * p / 100, a key behind y the
    // frame f + g; keys before x stay."
    private static void frames() {
        stretches(10, 20, 150, new int[] {0, 9, 10, 11, 12, 19, 20, 21, 22, 300},
                new int[] {0, 9, 10, 11, 13, 23, 25, 26, 27, 305});
        stretches(10, 20, 10, new int[] {5, 9, 10, 20, 21, 30, 999},
                new int[] {5, 9, 10, 11, 12, 21, 990});
        stretches(10, 20, 500, new int[] {9, 10, 11, 20, 21}, new int[] {9, 10, 15, 60, 61});
        stretches(10, 20, 100, new int[] {0, 10, 15, 20, 21, 999},
                new int[] {0, 10, 15, 20, 21, 999});
        stretches(0, 999, 10, new int[] {0, 10, 999}, new int[] {0, 1, 99});
        stretches(0, 1, 500, new int[] {0, 1, 2, 995}, new int[] {0, 5, 6, 999});
        stretches(998, 999, 10, new int[] {997, 999}, new int[] {997, 998});
        stretches(500, 999, 500, new int[] {0, 499, 500}, new int[] {0, 499, 500});
        stretches(0, 5, 200, new int[] {6, 7, 8, 9, 10, 11, 12, 13, 14, 15, 16, 17, 18, 19, 20, 21},
                new int[] {11, 12, 13, 14, 15, 16, 17, 18, 19, 20, 21, 22, 23, 24, 25, 26});
        stretches(0, 1, 10, new int[] {}, new int[] {});
        stretches(0, 1, 10, new int[] {0}, new int[] {0});
        stretches(0, 1, 10, new int[] {1}, new int[] {0});
        stretches(500, 501, 500, new int[] {0}, new int[] {0});
        stretches(0, 999, 500, new int[] {0}, new int[] {0});
    }

    // "let g be (y - x) * p / 100 - (y - x)"
    private static void rounds() {
        stretches(0, 15, 99, new int[] {14, 15, 16, 40}, new int[] {13, 14, 15, 39});
        stretches(100, 115, 99, new int[] {114, 115, 116, 140}, new int[] {113, 114, 115, 139});
        stretches(0, 15, 101, new int[] {14, 15, 16, 40}, new int[] {14, 15, 16, 40});
        stretches(0, 99, 101, new int[] {98, 99, 100}, new int[] {98, 99, 100});
        stretches(0, 100, 101, new int[] {99, 100, 101}, new int[] {99, 101, 102});
        stretches(3, 4, 199, new int[] {3, 4, 5}, new int[] {3, 4, 5});
        stretches(3, 4, 99, new int[] {2, 4, 5}, new int[] {2, 3, 4});
    }

    private static void theRestStays() {
        EaseCurves x = Curves.read("10,-5,5s;20,30,2;40,37,1v;60,50,5;");
        x.setTangent(0, 3, 0, -99);
        x.copy(1, 0, 0);
        due.same("all but the first key", x.stretch(0, 10, 20, 200), 3);
        int[] frames = {10, 30, 50, 70};
        for (int key = 0; key < 4; key++) {
            due.same("frame", x.key(0, key, 0), frames[key]);
            for (int what : new int[] {1, 2, 3, 4, 6}) {
                due.same("what " + what, x.key(0, key, what), x.key(1, key, what));
            }
        }
        due.same("the tangent is by the new frames", x.key(0, 2, 5), 1000 * (50 - 30) / (70 - 30));
        due.same("other curves are not stretched", x.key(1, 3, 0), 60);
    }

    // "It is not possible if a locked key (also one behind y) would get another frame"
    private static void locks() {
        EaseCurves x = at(5, 10, 11, 20, 21);
        x.lock(0, 0, true);
        x.lock(0, 1, true);
        due.same("locked before x and at x", x.stretch(0, 10, 20, 300), 3);
        x.undo();
        x.lock(0, 2, true);
        due.refused("locked in the span", x, Curves.STATE, () -> x.stretch(0, 10, 20, 200));
        due.same("locked in the span, and stays", x.stretch(0, 10, 20, 199), 2);
        x.undo();
        x.lock(0, 2, false);
        x.lock(0, 3, true);
        due.refused("locked at y", x, Curves.STATE, () -> x.stretch(0, 10, 20, 110));
        due.refused("locked at y, shrunk", x, Curves.STATE, () -> x.stretch(0, 10, 20, 99));
        due.same("locked at y, and stays", x.stretch(0, 10, 20, 109), 0);
        x.lock(0, 3, false);
        x.lock(0, 4, true);
        due.refused("locked behind y", x, Curves.STATE, () -> x.stretch(0, 10, 20, 110));
        due.refused("locked behind y, shrunk", x, Curves.STATE, () -> x.stretch(0, 12, 20, 99));
        due.same("locked behind y, and stays", x.stretch(0, 10, 20, 109), 0);
        due.refused("locked behind the keys", x, Curves.STATE, () -> x.stretch(0, 0, 1, 200));
        due.same("locked, a span behind it", x.stretch(0, 22, 999, 500), 0);
        EaseCurves other = at(10, 20);
        other.addKey(1, 20, 0, 0);
        other.lock(1, 0, true);
        due.same("a lock of another curve", other.stretch(0, 10, 20, 200), 1);
    }

    // "if two keys would have the same frame"
    private static void together() {
        stretchFails("x and the frame behind it", 10, 12, 50, 10, 11);
        stretchFails("two frames in the span", 0, 100, 50, 2, 3);
        stretchFails("the end of the span and the frame before", 0, 100, 99, 99, 0, 100, 1);
        stretchFails("the first two of 16", 0, 999, 99, 0, 1, 3, 5, 7, 9, 11, 13, 15, 17, 19, 21,
                23, 25, 27, 29);
        stretchFails("the last two of 16", 840, 842, 50, 0, 60, 120, 180, 240, 300, 360, 420, 480,
                540, 600, 660, 720, 780, 840, 841);
        stretches(10, 12, 50, new int[] {9, 11, 12}, new int[] {9, 10, 11});
        stretches(10, 12, 50, new int[] {10, 12, 13}, new int[] {10, 11, 12});
        stretches(0, 100, 50, new int[] {1, 2}, new int[] {0, 1});
    }

    // "or if a key would have a frame above 999"
    private static void tooFar() {
        stretches(0, 333, 300, new int[] {0, 333}, new int[] {0, 999});
        stretchFails("y at 1000", 0, 500, 200, 500);
        stretches(0, 500, 200, new int[] {499}, new int[] {998});
        stretches(0, 100, 200, new int[] {899}, new int[] {999});
        stretchFails("a key behind y at 1000", 0, 100, 200, 900);
        stretchFails("only the last one of three", 0, 100, 200, 0, 100, 900);
        stretchFails("as far as it goes", 0, 999, 500, 999);
        stretches(998, 999, 199, new int[] {999}, new int[] {999});
        stretchFails("999, one frame on", 998, 999, 200, 999);
    }
}
