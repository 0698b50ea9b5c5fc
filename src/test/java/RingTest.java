/** Promises 22 to 28: beads, heat, drawn, chance, image, back, count. */
final class RingTest {
    private static final Due DUE = new Due("RingTest");

    public static void main(String[] args) {
        promise22();
        promise22Edges();
        promise23();
        promise23Edges();
        promise24();
        promise24Told();
        promise24Refusals();
        promise25();
        promise25Refusals();
        promises26And27();
        promise27Keeps();
        promise27Gone();
        promise28();
        DUE.finish();
    }

    private static int beads(int... ring) {
        SamePlace x = new SamePlace();
        Due.lay(x, 1, 2, ring);
        return x.beads(1);
    }

    private static int heat(int... ring) {
        SamePlace x = new SamePlace();
        Due.lay(x, 1, 2, ring);
        return x.heat(1);
    }

    private static void promise22() {
        SamePlace x = new SamePlace();
        DUE.is("beads(-1)", x.beads(-1), -2);
        DUE.is("beads(4)", x.beads(4), -2);
        DUE.is("beads(0): missing", x.beads(0), -11);
        DUE.is("an odd size", beads(1, 1, 1), -2);
        DUE.is("no places", beads(), -1);
        DUE.is("no beads", beads(0, 0), 0);
        DUE.is("half of two", beads(1, 1, 0, 0), 1);
        DUE.is("in the second half", beads(0, 0, 1, 1, 0, 0), 0);
        DUE.is("half of three, cut", beads(1, -1, 7, 0, 0, 0), 2);
        DUE.is("one bead: none", beads(1, 0), 1);
        DUE.is("all are", beads(5, 5, 5, 5), 0);
        DUE.is("half of four", beads(9, 9, 9, 0, 9, 0, 0, 0), 2);
        Due.lay(x, 2, 0, 256, 1, 512, 1);
        DUE.is("256 is 0 as a byte", x.beads(2), 0);
        Due.lay(x, 2, 1, 256, 1, 65536, 0);
        DUE.is("256 is not as a short", x.beads(2), 1);
        DUE.is("one whose half has none, far on", beads(1, 1, 1, 0, 0, 0, 0, 0), 2);
    }

    private static void promise22Edges() {
        DUE.is("two, one of them", beads(0, 1), 0);
        DUE.is("two, both", beads(1, 1), 0);
        DUE.is("one number", beads(1), -2);
        int[] forty = new int[40];
        forty[20] = 3;
        DUE.is("one of forty, in the second half: half of one, cut, is 0", beads(forty), 0);
        forty[0] = -3;
        DUE.is("two of forty, across", beads(forty), 0);
        forty[20] = 0;
        forty[19] = 5;
        DUE.is("two of forty, in the first half", beads(forty), 1);
        DUE.is("39 numbers", beads(new int[39]), -2);
        DUE.is("least and most aren't 0", beads(Integer.MIN_VALUE, Integer.MAX_VALUE, 0, 0), 1);
        DUE.is("half of three, cut, at once", beads(1, 0, 0, 1, 1, 0), 0);
        DUE.is("half of five, cut", beads(1, 1, 1, 1, 1, 0), 3);
    }

    private static void promise23() {
        SamePlace x = new SamePlace();
        DUE.is("heat(-1)", x.heat(-1), -2);
        DUE.is("heat(4)", x.heat(4), -2);
        DUE.is("heat(0): missing", x.heat(0), -11);
        DUE.is("an odd size", heat(1, 1, 1), -2);
        DUE.is("no places", heat(), -2);
        DUE.is("two alike", heat(4, 4), 0);
        DUE.is("two unlike", heat(4, 5), 0);
        DUE.is("alike across", heat(1, 5, 2, 5), 1);
        DUE.is("above, then below", heat(9, 8, 1, 1, 2, 3), 1);
        DUE.is("below all along, till round", heat(1, 1, 1, 2, 2, 2), 2);
        DUE.is("as a long", heat(2147483647, 2147483647, -2147483648, 2147483647), 1);
        DUE.is("as a long, W above 0 in 0", heat(2147483647, 5, -2, -2147483648, -1, 2), 1);
        DUE.is("alike in the last of the half", heat(3, 3, 7, 1, 1, 7), 2);
    }

    private static void promise23Edges() {
        DUE.is("one number", heat(1), -2);
        DUE.is("39 numbers", heat(new int[39]), -2);
        DUE.is("forty alike", heat(new int[40]), 0);
        int[] forty = new int[40];
        for (int i = 0; i < 20; i++) {
            forty[i] = 1;
        }
        DUE.is("above in all of the first half: round to below", heat(forty), 19);
        forty[39] = 1;
        DUE.is("alike in 19", heat(forty), 19);
        forty[19] = -1;
        DUE.is("above in 18, below in 19", heat(forty), 18);
        DUE.is("two, far from one another", heat(Integer.MIN_VALUE, Integer.MAX_VALUE), 0);
        DUE.is("by 1 above, by 1 below", heat(5, 5, 4, 6), 0);
        // W in 0 is 2 to the 32nd less 1, which is -1 in an int; in 1 it is 1.
        DUE.is("above, above, as a long", heat(2147483647, 1, 5, -2147483648, 0, 4), 2);
        SamePlace x = new SamePlace();
        Due.lay(x, 0, 0, 128, 0, 127, 0);
        DUE.is("bytes have signs: -128 and 127", x.heat(0), 1);
        Due.lay(x, 0, 0, 256, 9, 512, 1);
        DUE.is("bytes alike by their lowest 8 bits", x.heat(0), 0);
        Due.lay(x, 0, 1, 32768, 2, 1, 0, 1, 0);
        DUE.is("shorts have signs: below, then above", x.heat(0), 0);
    }

    private static void promise24() {
        SamePlace x = new SamePlace();
        // z is 12345 behind SEED 0: (12345 >>> 9) % 601 is 24.
        Due.path(x, 0, 0, 0, 0, 600, 600);
        DUE.is("drawn(0, 1, 0)", x.drawn(0, 1, 0), 24);
        x.set(0, 0, 999);
        Due.path(x, 0, 0, 0, 0, 600, 999);
        DUE.is("SEED 0 of 1 by another LONG", x.drawn(0, 1, 0), 24);
        DUE.is("SEED 0, where it is steeper", x.drawn(0, 1, 1), 14);
        SamePlace y = new SamePlace();
        Due.path(y, 0, 0, 0, 24);
        DUE.is("in 0", y.drawn(0, 1, 0), 0);
        DUE.is("in 0, of 8", y.drawn(0, 8, 0), 0);
        y.clear(0);
        DUE.is("NONE", y.drawn(0, 1, 0), -1);
        DUE.is("no POINT came", y.count(2), 0);
        DUE.is("no WAY came", y.count(0), 1);
        // SEED 0's second z: 12345 * 1103515245 + 12345, whose place by LONG 600 is:
        int z = 12345 * 1103515245 + 12345;
        int second = (z >>> 9) % 601;
        y.point(0, 300, second);
        int rise = second - 24;
        int early = x.drawn(0, 2, 0);
        DUE.is("the second POINT is in 300", y.drawn(0, 2, 0), rise == 0 ? 0 : 300);
        DUE.holds("a WAY that goes all along meets it", early >= 0);
        SamePlace k = new SamePlace();
        Due.path(k, 2, 0, 0, 0, 600, 600);
        DUE.is("a TURNED WAY is the one as it is AT", k.drawn(0, 1, 0), 576);
    }

    /** A WAY DRAWN is met as one that has been told the same POINTS. */
    private static void promise24Told() {
        int[] seeds = {0, 1, -1, 77, Integer.MAX_VALUE, Integer.MIN_VALUE, 123456789};
        int[] longs = {10, 600, 999};
        for (int seed : seeds) {
            for (int n = 1; n <= 8; n++) {
                for (int far : longs) {
                    SamePlace x = new SamePlace();
                    x.set(0, 0, far);
                    Due.path(x, 0, 0, 0, 0, 600, far);
                    Due.path(x, 4, 9, 0, far, 300, 0, 600, far);
                    int z = seed;
                    x.way(0, 0);
                    for (int i = 0; i < n; i++) {
                        z = z * 1103515245 + 12345;
                        x.point(2, 600 * i / n, (z >>> 9) % (far + 1));
                    }
                    String what = "drawn(" + seed + ", " + n + ", ..) by LONG " + far;
                    DUE.is(what + ": POINTS told", x.told(2, 2), n);
                    DUE.is(what, x.drawn(seed, n, 0), x.meet(0, 2, 1));
                    DUE.is(what + ", HALTING", x.drawn(seed, n, 1), x.meet(1, 2, 1));
                }
            }
        }
    }

    private static void promise24Refusals() {
        SamePlace x = new SamePlace();
        DUE.is("no WAY", x.drawn(0, 1, 0), -2);
        x.way(0, 0);
        DUE.is("drawn(0, 0, 0)", x.drawn(0, 0, 0), -2);
        DUE.is("drawn(0, 9, 0)", x.drawn(0, 9, 0), -2);
        DUE.is("drawn(0, -1, 0)", x.drawn(0, -1, 0), -2);
        DUE.is("drawn(0, 1, 1)", x.drawn(0, 1, 1), -2);
        DUE.is("drawn(0, 1, -1)", x.drawn(0, 1, -1), -2);
    }

    private static void promise25() {
        int[] seeds = {0, -7, -1, Integer.MAX_VALUE, Integer.MAX_VALUE - 3, Integer.MIN_VALUE, 1 << 20};
        for (int seed : seeds) {
            SamePlace x = new SamePlace();
            Due.path(x, 0, 0, 0, 300, 600, 310);
            for (int n = 1; n <= 20; n++) {
                int many = 0;
                for (int i = 0; i < n; i++) {
                    many += x.drawn(seed + i, 4, 0) >= 0 ? 1 : 0;
                }
                long above = x.chance(seed, n, 0, 0);
                long below = x.chance(seed, n, 0, 1);
                DUE.is("chance(" + seed + ", " + n + ") as many as drawn", above * n, many * below);
                DUE.is("chance(" + seed + ", " + n + ") in lowest terms", common(above, below), 1);
            }
        }
    }

    private static void promise25Refusals() {
        SamePlace x = new SamePlace();
        DUE.is("no WAY", x.chance(0, 1, 0, 0), SamePlace.NO);
        x.way(0, 0);
        // It stays at the path's end, where the drawn ones are not: none of them MEET.
        DUE.is("none of 3: above", x.chance(0, 3, 0, 0), 0);
        DUE.is("none of 3: below", x.chance(0, 3, 0, 1), 1);
        DUE.is("none of 20: below", x.chance(0, 20, 0, 1), 1);
        DUE.is("chance(0, 0, 0, 0)", x.chance(0, 0, 0, 0), SamePlace.NO);
        DUE.is("chance(0, -1, 0, 0)", x.chance(0, -1, 0, 0), SamePlace.NO);
        DUE.is("chance(0, 21, 0, 0)", x.chance(0, 21, 0, 0), SamePlace.NO);
        DUE.is("chance(0, most, 0, 0)", x.chance(0, Integer.MAX_VALUE, 0, 0), SamePlace.NO);
        DUE.is("chance(0, least, 0, 0)", x.chance(0, Integer.MIN_VALUE, 0, 0), SamePlace.NO);
        DUE.is("chance(0, 1, 1, 0)", x.chance(0, 1, 1, 0), SamePlace.NO);
        DUE.is("chance(0, 1, -1, 0)", x.chance(0, 1, -1, 0), SamePlace.NO);
        DUE.is("chance(0, 1, 0, 2)", x.chance(0, 1, 0, 2), SamePlace.NO);
        DUE.is("chance(0, 1, 0, -1)", x.chance(0, 1, 0, -1), SamePlace.NO);
    }

    private static long common(long a, long b) {
        return b == 0 ? a : common(b, a % b);
    }

    private static void promises26And27() {
        SamePlace x = new SamePlace();
        DUE.is("back(): none", x.back(), -3);
        DUE.is("image() of none", x.image(), 0);
        x.way(0, 0);
        DUE.is("back() to none", x.back(), 0);
        DUE.is("no WAYS", x.count(0), 0);
        x.set(0, 0, 700);
        Due.path(x, 1, 2, 3, 4, 5, 6);
        Due.path(x, 4, 5, 7, 8);
        Due.read(x, "near 1;off 2;worth 3;");
        Due.read(x, "near 4;off 5;worth 6;");
        x.force(1);
        DUE.is("image()", x.image(), 2);
        x.force(2);
        x.set(1, 0, 9);
        x.clear(0);
        x.point(1, 100, 700);
        x.set(0, 0, 999);
        Due.path(x, 5, 5, 0, 999);
        DUE.is("back()", x.back(), 2);
        DUE.is("LONG", x.count(1), 700);
        DUE.is("POINTS", x.count(2), 3);
        DUE.is("THE RULE", x.count(5), 1);
        DUE.is("NUMBER", x.told(0, 1), 2);
        DUE.is("a POINT's MINUTE", x.told(0, 5), 5);
        DUE.is("a POINT's place", x.told(0, 6), 6);
        DUE.is("POINTS of the other one", x.told(1, 2), 1);
        DUE.is("the WAY that came since", x.told(2, 0), -2);
        DUE.is("another one comes without POINTS", x.way(0, 0), 2);
        DUE.is("its POINTS", x.told(2, 2), 0);
        DUE.is("back() once more", x.back(), 2);
    }

    /** What no IMAGE keeps stays as it is; a later IMAGE takes the earlier one's place. */
    private static void promise27Keeps() {
        SamePlace x = new SamePlace();
        x.image();
        Due.read(x, "near 1;off 2;worth 3;");
        Due.feed(x, "near");
        Due.lay(x, 0, 2, 5, 6);
        x.force(1);
        x.back();
        DUE.is("TEXTS stay", x.count(3), 2);
        DUE.is("THE TAPE stays", x.count(4), 4);
        DUE.is("SHEETS stay", x.heat(0), 0);
        DUE.is("THE RULE is as it was", x.count(5), 0);
        x.way(0, 7);
        DUE.is("image() anew", x.image(), 1);
        x.set(1, 0, 3);
        DUE.is("back() to that", x.back(), 1);
        DUE.is("its NUMBER", x.told(0, 1), 7);
    }

    /** Six WAYS are kept; one that went has no POINTS that count any more. */
    private static void promise27Gone() {
        SamePlace x = new SamePlace();
        for (int i = 0; i < 5; i++) {
            Due.path(x, 0, i, 5, i);
        }
        x.image();
        Due.path(x, 0, 5, 5, 600);
        DUE.is("a high place", x.set(0, 0, 500), -3);
        DUE.is("six WAYS' POINTS", x.count(2), 6);
        x.back();
        DUE.is("POINTS of those left", x.count(2), 5);
        DUE.is("the high place went", x.set(0, 0, 500), 600);
        Due.path(x, 5, 6, 7, 8);
        DUE.is("image() of six", x.image(), 6);
        x.clear(5);
        x.set(0, 0, 10);
        DUE.is("back() to six", x.back(), 6);
        DUE.is("LONG", x.count(1), 500);
        DUE.is("the sixth one's KIND", x.told(5, 0), 5);
        DUE.is("the sixth one's MINUTE", x.told(5, 3), 7);
    }

    private static void promise28() {
        SamePlace x = new SamePlace();
        x.set(0, 0, 321);
        Due.path(x, 0, 0, 1, 1, 2, 2);
        Due.path(x, 0, 0, 1, 1);
        Due.read(x, "near 1;off 2;worth 3;");
        x.force(1);
        Due.feed(x, "abc");
        int[] due = {2, 321, 3, 2, 3, 1, -2};
        for (int what = 0; what < due.length; what++) {
            DUE.is("count(" + what + ")", x.count(what), due[what]);
        }
        DUE.is("count(-1)", x.count(-1), -2);
    }

    private RingTest() {
    }
}
