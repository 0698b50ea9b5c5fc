/** Promises 1 to 6: a new object, set, way, point, clear, told. */
final class PathTest {
    private static final Due DUE = new Due("PathTest");

    public static void main(String[] args) {
        promise1();
        promise2Long();
        promise2Number();
        promise3();
        promise4();
        promise4Edges();
        promise5();
        promise6();
        promise6Edges();
        DUE.finish();
    }

    private static void promise1() {
        SamePlace x = new SamePlace();
        DUE.is("new: WAYS", x.count(0), 0);
        DUE.is("new: LONG", x.count(1), 600);
        DUE.is("new: POINTS", x.count(2), 0);
        DUE.is("new: TEXTS", x.count(3), 1);
        DUE.is("new: THE TAPE", x.count(4), 0);
        DUE.is("new: THE RULE", x.count(5), 0);
        DUE.is("new: told(0, 0)", x.told(0, 0), -2);
        DUE.is("new: at(0, 0)", x.at(0, 0), -2);
        DUE.is("new: back()", x.back(), -3);
        for (int i = 0; i < 4; i++) {
            DUE.is("new: SHEET " + i, x.cell(i, 0, 0), -11);
        }
        DUE.is("NONE", SamePlace.NONE, -1);
        DUE.is("BAD", SamePlace.BAD, -2);
        DUE.is("STATE", SamePlace.STATE, -3);
        DUE.is("FULL", SamePlace.FULL, -4);
        DUE.is("NO", SamePlace.NO, -4611686018427387904L);
    }

    private static void promise2Long() {
        SamePlace x = new SamePlace();
        DUE.is("set(0, 0, 9)", x.set(0, 0, 9), -2);
        DUE.is("set(0, 0, 1000)", x.set(0, 0, 1000), -2);
        DUE.is("set(0, 0, min)", x.set(0, 0, Integer.MIN_VALUE), -2);
        DUE.is("set(0, 0, max)", x.set(0, 0, Integer.MAX_VALUE), -2);
        DUE.is("LONG as it was", x.count(1), 600);
        DUE.is("set(0, 0, 10)", x.set(0, 0, 10), 600);
        DUE.is("set(0, 99, 999): of does not matter", x.set(0, 99, 999), 10);
        DUE.is("LONG is 999", x.count(1), 999);
        Due.path(x, 0, 0, 5, 700, 6, 20);
        Due.path(x, 0, 0, 5, 800, 6, 20);
        DUE.is("below a place of a POINT", x.set(0, 0, 799), -3);
        DUE.is("BAD ahead of STATE", x.set(0, 0, 9), -2);
        DUE.is("LONG as it was by STATE", x.count(1), 999);
        DUE.is("no less than any place", x.set(0, 0, 800), 999);
        x.clear(1);
        DUE.is("the other WAY's place is left", x.set(0, 0, 699), -3);
        DUE.is("its place", x.set(0, 0, 700), 800);
        x.clear(0);
        DUE.is("no POINTS", x.set(0, 0, 10), 700);
        DUE.is("as it is", x.set(0, 0, 10), 10);
        x.set(0, 0, 999);
        for (int i = 0; i < 8; i++) {
            x.point(0, i, i);
        }
        x.clear(1);
        x.point(1, 0, 998);
        x.point(1, 1, 11);
        DUE.is("a POINT that is not the last counts", x.set(0, 0, 997), -3);
        DUE.is("no place is above it", x.set(0, 0, 998), 999);
        for (int i = 2; i < 6; i++) {
            x.way(0, 0);
        }
        x.clear(1);
        x.point(5, 600, 500);
        DUE.is("a POINT of the last WAY counts", x.set(0, 0, 499), -3);
        DUE.is("its place, just", x.set(0, 0, 500), 998);
    }

    private static void promise2Number() {
        SamePlace x = new SamePlace();
        DUE.is("set(1, 0, 0): no WAY", x.set(1, 0, 0), -2);
        x.way(1, 4);
        x.way(2, 7);
        DUE.is("set(1, 0, 9)", x.set(1, 0, 9), 4);
        DUE.is("told(0, 1)", x.told(0, 1), 9);
        DUE.is("the other one's stays", x.told(1, 1), 7);
        DUE.is("set(1, 0, 10)", x.set(1, 0, 10), -2);
        DUE.is("set(1, 0, -1)", x.set(1, 0, -1), -2);
        DUE.is("set(1, 2, 0)", x.set(1, 2, 0), -2);
        DUE.is("set(1, -1, 0)", x.set(1, -1, 0), -2);
        DUE.is("set(1, 0, 0)", x.set(1, 0, 0), 9);
        DUE.is("set(2, 0, 0)", x.set(2, 0, 0), -2);
        DUE.is("set(2, 0, 500)", x.set(2, 0, 500), -2);
        DUE.is("set(-1, 0, 0)", x.set(-1, 0, 0), -2);
        DUE.is("LONG stays", x.count(1), 600);
    }

    private static void promise3() {
        SamePlace x = new SamePlace();
        DUE.is("way(-1, 0)", x.way(-1, 0), -2);
        DUE.is("way(6, 0)", x.way(6, 0), -2);
        DUE.is("way(0, -1)", x.way(0, -1), -2);
        DUE.is("way(0, 10)", x.way(0, 10), -2);
        DUE.is("none came", x.count(0), 0);
        for (int i = 0; i < 6; i++) {
            DUE.is("way(" + i + ", " + (9 - i) + ")", x.way(i, 9 - i), i);
            DUE.is("KIND of " + i, x.told(i, 0), i);
            DUE.is("NUMBER of " + i, x.told(i, 1), 9 - i);
            DUE.is("POINTS of " + i, x.told(i, 2), 0);
        }
        DUE.is("a seventh WAY", x.way(0, 0), -4);
        DUE.is("BAD ahead of FULL", x.way(6, 0), -2);
        DUE.is("BAD ahead of FULL, NUMBER", x.way(0, 10), -2);
        DUE.is("six WAYS", x.count(0), 6);
    }

    private static void promise4() {
        SamePlace x = new SamePlace();
        DUE.is("point(0, 0, 0): no WAY", x.point(0, 0, 0), -2);
        x.way(0, 0);
        DUE.is("point(-1, 0, 0)", x.point(-1, 0, 0), -2);
        DUE.is("point(1, 0, 0)", x.point(1, 0, 0), -2);
        DUE.is("MINUTE -1", x.point(0, -1, 0), -2);
        DUE.is("MINUTE 601", x.point(0, 601, 0), -2);
        DUE.is("place -1", x.point(0, 0, -1), -2);
        DUE.is("place 601", x.point(0, 0, 601), -2);
        DUE.is("point(0, 0, 600)", x.point(0, 0, 600), 1);
        DUE.is("not later", x.point(0, 0, 0), -2);
        DUE.is("point(0, 2, 0)", x.point(0, 2, 0), 2);
        DUE.is("earlier", x.point(0, 1, 0), -2);
        for (int i = 3; i <= 8; i++) {
            DUE.is("POINT " + i, x.point(0, i, i), i);
        }
        DUE.is("a ninth POINT", x.point(0, 600, 0), -4);
        DUE.is("BAD ahead of FULL: not later", x.point(0, 8, 0), -2);
        DUE.is("BAD ahead of FULL: MINUTE", x.point(0, 601, 0), -2);
        DUE.is("BAD ahead of FULL: place", x.point(0, 600, 601), -2);
        DUE.is("eight POINTS", x.count(2), 8);
        x.way(0, 0);
        DUE.is("another WAY's POINTS are its own", x.point(1, 0, 0), 1);
        DUE.is("MINUTE 600", x.point(1, 600, 600), 2);
        x.set(0, 0, 999);
        x.way(0, 0);
        DUE.is("a place up to LONG", x.point(2, 1, 999), 1);
    }

    private static void promise4Edges() {
        SamePlace x = new SamePlace();
        x.way(0, 0);
        DUE.is("WAY least", x.point(Integer.MIN_VALUE, 0, 0), -2);
        DUE.is("WAY most", x.point(Integer.MAX_VALUE, 0, 0), -2);
        DUE.is("MINUTE least", x.point(0, Integer.MIN_VALUE, 0), -2);
        DUE.is("MINUTE most", x.point(0, Integer.MAX_VALUE, 0), -2);
        DUE.is("place least", x.point(0, 0, Integer.MIN_VALUE), -2);
        DUE.is("place most", x.point(0, 0, Integer.MAX_VALUE), -2);
        DUE.is("none came", x.told(0, 2), 0);
        DUE.is("the first in 600", x.point(0, 600, 0), 1);
        DUE.is("none is later than 600", x.point(0, 600, 1), -2);
        x.clear(0);
        DUE.is("cleared, it may begin in 0", x.point(0, 0, 600), 1);
        x.set(0, 0, 601);
        DUE.is("a place by the LONG of now", x.point(0, 1, 601), 2);
        DUE.is("one beyond it", x.point(0, 2, 602), -2);
        DUE.is("the same place again", x.point(0, 2, 601), 3);
        x.clear(0);
        for (int i = 0; i < 8; i++) {
            x.point(0, 75 * i, 0);
        }
        DUE.is("FULL, though later", x.point(0, 600, 0), -4);
        DUE.is("cleared, there is room again", x.clear(0), 8);
        DUE.is("the first again", x.point(0, 0, 0), 1);
    }

    private static void promise5() {
        SamePlace x = new SamePlace();
        DUE.is("clear(0): no WAY", x.clear(0), -2);
        Due.path(x, 3, 5, 10, 20, 30, 40, 50, 60);
        Due.path(x, 0, 0, 1, 1);
        DUE.is("clear(-1)", x.clear(-1), -2);
        DUE.is("clear(2)", x.clear(2), -2);
        DUE.is("clear(0)", x.clear(0), 3);
        DUE.is("again", x.clear(0), 0);
        DUE.is("it is there yet", x.told(0, 0), 3);
        DUE.is("its NUMBER", x.told(0, 1), 5);
        DUE.is("POINTS of the other one", x.told(1, 2), 1);
        DUE.is("a POINT anew", x.point(0, 0, 7), 1);
        DUE.is("its place", x.told(0, 4), 7);
    }

    private static void promise6() {
        SamePlace x = new SamePlace();
        Due.path(x, 4, 6, 10, 20, 30, 40);
        int[] due = {4, 6, 2, 10, 20, 30, 40, -2, -2};
        for (int what = 0; what < due.length; what++) {
            DUE.is("told(0, " + what + ")", x.told(0, what), due[what]);
        }
        DUE.is("told(0, -1)", x.told(0, -1), -2);
        DUE.is("told(0, min)", x.told(0, Integer.MIN_VALUE), -2);
        DUE.is("told(0, max)", x.told(0, Integer.MAX_VALUE), -2);
        DUE.is("told(1, 0)", x.told(1, 0), -2);
        DUE.is("told(-1, 0)", x.told(-1, 0), -2);
        x.clear(0);
        DUE.is("told(0, 3), cleared", x.told(0, 3), -2);
        DUE.is("told(0, 2), cleared", x.told(0, 2), 0);
    }

    private static void promise6Edges() {
        SamePlace x = new SamePlace();
        x.way(5, 9);
        for (int i = 0; i < 8; i++) {
            DUE.is("told(0, " + (3 + 2 * i) + ") ahead of the POINT", x.told(0, 3 + 2 * i), -2);
            DUE.is("told(0, " + (4 + 2 * i) + ") ahead of the POINT", x.told(0, 4 + 2 * i), -2);
            x.point(0, 10 * i, 100 + i);
            DUE.is("the MINUTE of POINT " + i, x.told(0, 3 + 2 * i), 10 * i);
            DUE.is("the place of POINT " + i, x.told(0, 4 + 2 * i), 100 + i);
        }
        DUE.is("told(0, 19): eight POINTS", x.told(0, 19), -2);
        DUE.is("told(0, 20)", x.told(0, 20), -2);
        DUE.is("told(0, most less 1)", x.told(0, Integer.MAX_VALUE - 1), -2);
        DUE.is("told(most, 0)", x.told(Integer.MAX_VALUE, 0), -2);
        DUE.is("told(least, 0)", x.told(Integer.MIN_VALUE, 0), -2);
        x.clear(0);
        x.point(0, 7, 8);
        DUE.is("an earlier POINT is told no more", x.told(0, 5), -2);
        DUE.is("the new one is", x.told(0, 3), 7);
    }

    private PathTest() {
    }
}
