/** Promises 15 to 18: meet, when, sure, apart. */
final class TwoTest {
    private static final Due DUE = new Due("TwoTest");

    public static void main(String[] args) {
        promise15();
        promise15Edges();
        promise15Refusals();
        promise16();
        promise17();
        promise17Again();
        promise18();
        promise18Near();
        DUE.finish();
    }

    private static SamePlace two(int[] one, int[] other) {
        SamePlace x = new SamePlace();
        Due.path(x, 0, 0, one);
        Due.path(x, 0, 0, other);
        return x;
    }

    private static void meets(String what, SamePlace x, int many, int first, int last) {
        DUE.is(what + ": how many", x.meet(0, 1, 0), many);
        DUE.is(what + ": the first", x.meet(0, 1, 1), first);
        DUE.is(what + ": the last", x.meet(0, 1, 2), last);
        DUE.is(what + ": odd", x.meet(0, 1, 3), many % 2);
        DUE.is(what + ": the other way round", x.meet(1, 0, 0), many);
        DUE.is(what + ": its first", x.meet(1, 0, 1), first);
    }

    private static void promise15() {
        meets("just in a MINUTE", two(new int[] {0, 0, 600, 600}, new int[] {0, 600, 600, 0}), 1, 300, 300);
        meets("between two", two(new int[] {0, 3}, new int[] {10, 0, 11, 10}), 1, 10, 10);
        meets("never", two(new int[] {0, 3}, new int[] {10, 4, 11, 10}), 0, -1, -1);
        meets("there and back", two(new int[] {0, 3}, new int[] {10, 0, 11, 10, 20, 10, 21, 0}), 2, 10, 20);
        meets("touching", two(new int[] {0, 10}, new int[] {10, 0, 11, 10, 12, 0}), 1, 11, 11);
        meets("for a while", two(new int[] {0, 10}, new int[] {10, 0, 11, 10, 14, 10, 15, 20}), 4, 11, 14);
        meets("all along", two(new int[] {}, new int[] {0, 0}), 601, 0, 600);
    }

    private static void promise15Edges() {
        meets("in MINUTE 600", two(new int[] {0, 5}, new int[] {599, 4, 600, 5}), 1, 600, 600);
        meets("behind 599", two(new int[] {0, 5}, new int[] {599, 4, 600, 6}), 1, 599, 599);
        meets("in MINUTE 0", two(new int[] {0, 5}, new int[] {0, 5, 1, 6}), 1, 0, 0);
        meets("behind 0", two(new int[] {0, 5}, new int[] {0, 6, 1, 4}), 1, 0, 0);
        meets("in 0 and in 600 alone", two(new int[] {0, 5}, new int[] {0, 5, 1, 6, 599, 6, 600, 5}), 2, 0, 600);
        // The other one is at 998 in 250 and at 1001 in 251, where the one is at 1000 yet, ere it goes on to 5000.
        meets("by a thousandth", two(new int[] {251, 1, 252, 5}, new int[] {0, 0, 501, 2}), 2, 250, 251);
        meets("near by a thousandth", two(new int[] {0, 1}, new int[] {251, 2, 252, 1, 253, 2}), 1, 252, 252);
        DUE.is("two WAYS alike, of which one is TURNED", turnedMeets(), 1);
    }

    /** One goes to the end and one comes from there: they MEET in the middle, between 299 and 300. */
    private static int turnedMeets() {
        SamePlace x = new SamePlace();
        Due.path(x, 0, 0, 0, 0, 599, 600);
        Due.path(x, 2, 0, 0, 0, 599, 600);
        return x.meet(0, 1, 1) == 299 ? x.meet(0, 1, 0) : -99;
    }

    private static void promise15Refusals() {
        SamePlace x = two(new int[] {}, new int[] {});
        DUE.is("meet(0, 0, 0)", x.meet(0, 0, 0), -2);
        DUE.is("meet(0, 2, 0)", x.meet(0, 2, 0), -2);
        DUE.is("meet(2, 0, 0)", x.meet(2, 0, 0), -2);
        DUE.is("meet(-1, 0, 0)", x.meet(-1, 0, 0), -2);
        DUE.is("meet(0, -1, 0)", x.meet(0, -1, 0), -2);
        DUE.is("meet(0, 1, -1)", x.meet(0, 1, -1), -2);
        DUE.is("meet(0, 1, 4)", x.meet(0, 1, 4), -2);
        DUE.is("sure(0, 0)", x.sure(0, 0), -2);
        DUE.is("sure(0, 2)", x.sure(0, 2), -2);
        DUE.is("sure(-1, 0)", x.sure(-1, 0), -2);
        DUE.is("apart(0, 0, 0)", x.apart(0, 0, 0), -2);
        DUE.is("apart(0, 2, 0)", x.apart(0, 2, 0), -2);
        DUE.is("apart(-1, 0, 0)", x.apart(-1, 0, 0), -2);
        DUE.is("apart(0, 1, -1)", x.apart(0, 1, -1), -2);
        DUE.is("apart(0, 1, 3)", x.apart(0, 1, 3), -2);
        DUE.is("when(0, 0, 0)", x.when(0, 0, 0), SamePlace.NO);
        DUE.is("when(0, 2, 0)", x.when(0, 2, 0), SamePlace.NO);
        DUE.is("when(-1, 0, 0)", x.when(-1, 0, 0), SamePlace.NO);
        DUE.is("when(0, 1, -1)", x.when(0, 1, -1), SamePlace.NO);
        DUE.is("when(0, 1, 2)", x.when(0, 1, 2), SamePlace.NO);
    }

    private static void fraction(String what, SamePlace x, long above, long below) {
        DUE.is(what + ": above", x.when(0, 1, 0), above);
        DUE.is(what + ": below", x.when(0, 1, 1), below);
        DUE.is(what + ": above, the other way round", x.when(1, 0, 0), above);
        DUE.is(what + ": below, the other way round", x.when(1, 0, 1), below);
    }

    private static void promise16() {
        fraction("in 300", two(new int[] {0, 0, 600, 600}, new int[] {0, 600, 600, 0}), 300, 1);
        fraction("in 0", two(new int[] {}, new int[] {}), 0, 1);
        fraction("in 600", two(new int[] {0, 5}, new int[] {599, 4, 600, 5}), 600, 1);
        fraction("three tenths", two(new int[] {0, 3}, new int[] {0, 0, 1, 10}), 3, 10);
        fraction("10 and three tenths", two(new int[] {0, 3}, new int[] {10, 0, 11, 10}), 103, 10);
        fraction("10 and a half", two(new int[] {0, 5}, new int[] {10, 10, 11, 0}), 21, 2);
        fraction("the first of two", two(new int[] {0, 3}, new int[] {10, 0, 11, 10, 20, 10, 21, 0}), 103, 10);
        fraction("never", two(new int[] {0, 3}, new int[] {10, 4, 11, 10}), SamePlace.NO, SamePlace.NO);
        fraction("between 0 and 1, a half", two(new int[] {0, 5}, new int[] {0, 0, 1, 10}), 1, 2);
        fraction("behind 599", two(new int[] {0, 5}, new int[] {599, 4, 600, 6}), 1199, 2);
        fraction("just in 1", two(new int[] {0, 5}, new int[] {0, 0, 1, 5}), 1, 1);
        fraction("from end to end", two(new int[] {0, 599}, new int[] {598, 0, 599, 600}), 598 * 600 + 599, 600);
        fraction("of thousandths", two(new int[] {0, 1}, new int[] {7, 0, 10, 4}), 10331, 1333);
    }

    private static void promise17() {
        int[] up = {0, 0, 100, 100};
        SamePlace x = two(up, new int[] {60, 50, 61, 200});
        DUE.is("up to 10 MINUTES later", x.sure(0, 1), 10);
        DUE.is("the other one later", x.sure(1, 0), 120);
        DUE.is("always", two(up, new int[] {0, 50}).sure(0, 1), 120);
        DUE.is("never", two(up, new int[] {0, 150}).sure(0, 1), -1);
        DUE.is("just up to 119", two(up, new int[] {169, 50, 170, 200}).sure(0, 1), 119);
        DUE.is("just up to 120", two(up, new int[] {170, 50, 171, 200}).sure(0, 1), 120);
        DUE.is("beyond 120: 120", two(up, new int[] {171, 50, 172, 200}).sure(0, 1), 120);
        DUE.is("by 1", two(up, new int[] {51, 50, 52, 200}).sure(0, 1), 1);
        DUE.is("they MEET in 600 alone, and no later", two(new int[] {599, 0, 600, 9}, new int[] {0, 9}).sure(0, 1), 0);
        DUE.is("no WAYS", new SamePlace().sure(0, 1), -2);
        DUE.is("no later at all", two(up, new int[] {50, 50, 51, 200}).sure(0, 1), 0);
        DUE.is("before it sets out it is where it is in 0", two(new int[] {0, 7, 1, 8},
                new int[] {5, 0, 10, 7, 11, 0}).sure(0, 1), -1);
        DUE.is("while it waits", two(new int[] {0, 7, 20, 8, 30, 0},
                new int[] {5, 0, 10, 9, 11, 0}).sure(0, 1), 120);
    }

    /** Later is where it is AT, so that a WILD one's own steps are later, too. */
    private static int wildSure() {
        SamePlace x = new SamePlace();
        // It is in place 4 in MINUTES 4, 9, 14 .. alone; the other one is there in MINUTE 14 alone.
        Due.path(x, 5, 3);
        Due.path(x, 0, 0, 13, 9, 14, 4, 15, 9);
        return x.sure(0, 1);
    }

    /** It is sure by 0, not by 1, and yet again by 30. */
    private static void promise17Again() {
        SamePlace x = two(new int[] {0, 0, 10, 100, 20, 100, 30, 0},
                new int[] {5, 50, 6, 200, 50, 200, 51, 50});
        DUE.is("by each of them", x.sure(0, 1), 0);
        DUE.is("a WILD one's steps come later, too", wildSure(), 0);
    }

    private static void promise18() {
        SamePlace x = two(new int[] {0, 0, 100, 100, 200, 0}, new int[] {0, 40});
        DUE.is("at most", x.apart(0, 1, 0), 60000);
        DUE.is("the MINUTE", x.apart(0, 1, 1), 100);
        DUE.is("at most, the other way round", x.apart(1, 0, 0), 60000);
        DUE.is("the MINUTE, the other way round", x.apart(1, 0, 1), 100);
        SamePlace y = two(new int[] {0, 0, 100, 100, 200, 0}, new int[] {0, 50});
        DUE.is("the first of like ones", y.apart(0, 1, 1), 0);
        SamePlace end = two(new int[] {599, 0, 600, 100}, new int[] {0, 40});
        DUE.is("at most in 600", end.apart(0, 1, 0), 60000);
        DUE.is("MINUTE 600", end.apart(0, 1, 1), 600);
        SamePlace early = two(new int[] {0, 40, 1, 90, 2, 40, 3, 90}, new int[] {0, 40});
        DUE.is("at most in 1", early.apart(0, 1, 0), 50000);
        DUE.is("MINUTE 1, the first of like ones", early.apart(0, 1, 1), 1);
        DUE.is("below, at most", two(new int[] {0, 9, 1, 0, 2, 9}, new int[] {0, 5}).apart(0, 1, 0), 5000);
        SamePlace ends = two(new int[] {0, 0}, new int[] {0, 600});
        DUE.is("from end to end", ends.apart(0, 1, 0), 600000);
        DUE.is("from end to end: NEAR", ends.apart(0, 1, 2), 0);
        SamePlace z = two(new int[] {}, new int[] {});
        DUE.is("never apart", z.apart(0, 1, 0), 0);
        DUE.is("never apart: the MINUTE", z.apart(0, 1, 1), 0);
        DUE.is("never apart: NEAR", z.apart(0, 1, 2), 601);
    }

    private static void promise18Near() {
        SamePlace x = two(new int[] {0, 0, 100, 100}, new int[] {0, 40});
        DUE.is("NEAR by 500", x.apart(0, 1, 2), 1);
        Due.read(x, "near 2000*way+1000;off 0;worth 0;");
        x.force(1);
        DUE.is("NEAR by 1000: no more than it", x.apart(0, 1, 2), 3);
        DUE.is("NEAR as told of the one", x.apart(1, 0, 2), 7);
        Due.read(x, "near 9999*(minute<38);off 0;worth 0;");
        x.force(2);
        DUE.is("NEAR as told of the MINUTE", x.apart(0, 1, 2), 8);
        Due.read(x, "near 0;off 0;worth 0;");
        x.force(3);
        DUE.is("NEAR by 0", x.apart(0, 1, 2), 1);
        Due.read(x, "near 999;off 0;worth 0;");
        x.force(4);
        DUE.is("NEAR by 999: a thousandth less than the next", x.apart(0, 1, 2), 1);
        Due.read(x, "near 9999+1;off 0;worth 0;");
        x.force(5);
        // 31 to 49 are within 9999, while 30 and 50 are 10000 off.
        DUE.is("NEAR by its bound", x.apart(0, 1, 2), 19);
    }

    private TwoTest() {
    }
}
