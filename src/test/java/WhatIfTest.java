/** Promises 18 to 20: what a curve would be otherwise. */
public final class WhatIfTest {
    private static final Due due = new Due();

    public static void main(String[] args) {
        error();
        errorByTangents();
        greatestStretch();
        leastEase();
        due.end();
    }

    // Promise 18
    private static void error() {
        EaseCurves x = Curves.linear(0, 0, 0, 10, 30, 20, 20, 30, 0);
        long before = x.digest();
        due.same("the first key", x.error(0, 0), -1);
        due.same("at the key itself: 30 - 10", x.error(0, 1), 20);
        due.same("20 - 15", x.error(0, 2), 5);
        due.same("the last key", x.error(0, 3), -1);
        due.same("it changes nothing", x.digest(), before);
        x.lock(0, 1, true);
        due.same("a locked key", x.error(0, 1), -1);
        due.same("not locked", x.error(0, 2), 5);
        EaseCurves one = Curves.linear(0, 5, 5);
        due.same("the only key", one.error(0, 0), -1);
        due.refused("curve 4", x, Curves.INDEX, () -> x.error(4, 0));
        due.refused("curve -1", x, Curves.INDEX, () -> x.error(-1, 0));
        due.refused("key 4", x, Curves.INDEX, () -> x.error(0, 4));
        due.refused("key -1", x, Curves.INDEX, () -> x.error(0, -1));
        due.refused("an empty curve", x, Curves.INDEX, () -> x.error(1, 0));
    }

    private static void errorByTangents() {
        // In the span before key 1 the ease 5 adds n * -148 / 1000 at the lowest place. Without
        // key 2, n goes from 990 * 9 / 1000 = 8 to 990 * 99 / 1000 = 98, so that this span is
        // lower by up to 13; but at the frame of key 2 the value goes from 9 to 49.
        EaseCurves x = Curves.read("0,0,5;990,0,1s;991,9,1;992,99,1;");
        due.same("the tangent of the neighbor", x.key(0, 1, 5), 9);
        due.same("at the frame of the key", x.error(0, 2), 40);
        // Now n goes from 48 to 98: where 98 gives -14, 48 gives -6.
        x.setKey(0, 2, 49, 1);
        due.same("in the span before the neighbor", x.error(0, 2), 8);
        // The same behind a neighbor: key 1 is 50 and would be 49, n is now m, -148 is 148.
        EaseCurves y = Curves.read("0,0,1;1,50,1;2,99,5s;992,99,0;");
        due.same("the tangent of the neighbor", y.key(0, 2, 5), 49);
        due.same("in the span behind the neighbor", y.error(0, 1), 8);
        y.setTangent(0, 2, 0, 0);
        due.same("with a tangent that is kept", y.error(0, 1), 1);
        y.setTangent(0, 2, 2, 0);
        due.same("with a level tangent at a turn", y.error(0, 1), 1);
    }

    // Promise 19
    private static void greatestStretch() {
        EaseCurves x = Curves.linear(0, 0, 0, 100, 1, 199, 2);
        due.same("no key goes too far", x.greatestStretch(0, 0, 199), 500);
        due.same("just to 999", x.greatestStretch(0, 0, 200), 500);
        x.moveKey(0, 2, 200);
        due.same("a key at 1000 is too far", x.greatestStretch(0, 0, 200), 490);
        due.same("behind the span", x.greatestStretch(0, 100, 150), 500);
        x.moveKey(0, 2, 999);
        due.same("a key at 999", x.greatestStretch(0, 0, 100), 100);
        due.same("a span of one frame is 1 up to 190", x.greatestStretch(0, 998, 999), 190);
        due.same("nor what is behind it moves", x.greatestStretch(0, 500, 501), 190);
        x.lock(0, 1, true);
        due.same("a lock", x.greatestStretch(0, 50, 150), 100);
        x.moveKey(0, 2, 100 + 50);
        due.same("a lock at the start of the span", x.greatestStretch(0, 100, 999), 500);
        due.same("a lock behind the span", x.greatestStretch(0, 0, 10), 100);
        EaseCurves small = Curves.linear(0, 0, 0, 5, 0);
        small.lock(0, 1, true);
        due.same("a span of one frame, 190 leaves it", small.greatestStretch(0, 1, 2), 190);
        due.same("without keys", x.greatestStretch(1, 0, 999), 500);
        long before = x.digest();
        x.greatestStretch(0, 0, 999);
        due.same("it changes nothing", x.digest(), before);
        due.refused("curve 4", x, Curves.INDEX, () -> x.greatestStretch(4, -1, 0));
        due.refused("from -1", x, Curves.ARGUMENT, () -> x.greatestStretch(0, -1, 5));
        due.refused("from 999", x, Curves.ARGUMENT, () -> x.greatestStretch(0, 999, 1000));
        due.refused("to is from", x, Curves.ARGUMENT, () -> x.greatestStretch(0, 3, 3));
        due.refused("to 1000", x, Curves.ARGUMENT, () -> x.greatestStretch(0, 3, 1000));
    }

    // Promise 20
    private static void leastEase() {
        EaseCurves x = Curves.linear(0, 0, 0, 100, 100, 200, 0, 300, 0);
        long before = x.digest();
        due.same("up: hold", x.leastEase(0, 0), 0);
        due.same("down: out", x.leastEase(0, 1), 3);
        due.same("flat: the lowest ease", x.leastEase(0, 2), 0);
        due.same("it changes nothing", x.digest(), before);
        x.setTangent(0, 2, 0, -9000);
        due.same("flat: a tangent down", x.leastEase(0, 2), 5);
        x.setTangent(0, 2, 0, 9000);
        due.same("flat: a tangent up", x.leastEase(0, 2), 0);
        x.lock(0, 2, true);
        due.same("a locked key", x.leastEase(0, 2), 0);
        EaseCurves near = Curves.linear(0, 0, 5, 1, 0);
        due.same("neighboring frames: all eases are equal", near.leastEase(0, 0), 0);
        due.refused("the last key", x, Curves.INDEX, () -> x.leastEase(0, 3));
        due.refused("key 4", x, Curves.INDEX, () -> x.leastEase(0, 4));
        due.refused("key -1", x, Curves.INDEX, () -> x.leastEase(0, -1));
        due.refused("curve 4", x, Curves.INDEX, () -> x.leastEase(4, 0));
        due.refused("an empty curve", x, Curves.INDEX, () -> x.leastEase(1, 0));
    }
}
