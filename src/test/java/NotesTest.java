/** Promises 19 to 21: fits, wrong, posts. */
final class NotesTest {
    private static final Due DUE = new Due("NotesTest");

    public static void main(String[] args) {
        promise19();
        promise19Rows();
        promise19Off();
        promise19Refusals();
        promise20();
        promise20Rows();
        promise20Refusals();
        promise21();
        promise21Least();
        promise21Ends();
        promise21Pairs();
        DUE.finish();
    }

    /** WAYS that go 1, 2 and 3 times a place every three MINUTES, up to 200, 400, 600. */
    private static SamePlace three() {
        SamePlace x = new SamePlace();
        Due.path(x, 0, 0, 0, 0, 600, 200);
        Due.path(x, 0, 0, 0, 0, 600, 400);
        Due.path(x, 0, 0, 0, 0, 600, 600);
        return x;
    }

    private static int fitting(SamePlace x, int... notes) {
        Due.lay(x, 0, 2, notes);
        return x.fits(0);
    }

    private static void promise19() {
        SamePlace x = three();
        DUE.is("no NOTES: all", fitting(x), 7);
        DUE.is("in 0: all", fitting(x, 0, 0, 0), 7);
        DUE.is("WAY 1", fitting(x, 300, 200, 0), 2);
        DUE.is("WAYS 1 and 2, just within", fitting(x, 300, 200, 100000), 7);
        DUE.is("not within", fitting(x, 300, 200, 99999), 2);
        DUE.is("WAY 2", fitting(x, 300, 250, 50000), 6);
        DUE.is("each row", fitting(x, 300, 250, 50000, 600, 600, 0), 4);
        DUE.is("no WAY by both rows", fitting(x, 300, 200, 0, 600, 600, 0), 0);
        DUE.is("within less than 0", fitting(x, 0, 0, -1), 0);
        DUE.is("a place far off", fitting(x, 0, 2147483647, 2147483647), 0);
        DUE.is("a place that would wrap to 0", fitting(x, 0, 1 << 30, 1000), 0);
        DUE.is("a place below 0", fitting(x, 0, -5, 5000), 7);
        Due.lay(x, 1, 0, 90, 30, 0);
        DUE.is("of bytes", x.fits(1), 1);
        Due.lay(x, 1, 1, 600, 400, 0);
        DUE.is("of shorts", x.fits(1), 2);
        SamePlace none = new SamePlace();
        DUE.is("no WAYS", fitting(none, 5, 5, 5), 0);
    }

    private static void promise19Rows() {
        SamePlace x = three();
        DUE.is("the second row alone tells", fitting(x, 0, 0, 0, 300, 200, 0), 2);
        DUE.is("the third row alone tells", fitting(x, 0, 0, 0, 0, 0, 0, 600, 600, 0), 4);
        DUE.is("the first row alone tells", fitting(x, 600, 200, 0, 0, 0, 0, 0, 0, 0), 1);
        DUE.is("rows that rule out one another", fitting(x, 600, 200, 0, 600, 400, 0), 0);
        DUE.is("13 rows, the last of which tells", fitting(x, 0, 0, 0, 0, 0, 0, 0, 0, 0, 0, 0, 0, 0, 0, 0, 0, 0, 0,
                0, 0, 0, 0, 0, 0, 0, 0, 0, 0, 0, 0, 0, 0, 0, 0, 0, 0, 600, 400, 0), 2);
        DUE.is("40 numbers", fitting(x, new int[40]), -2);
        DUE.is("39 numbers", fitting(x, new int[39]), 7);
        DUE.is("farther by a thousandth, above", fitting(x, 1, 0, 332), 0);
        DUE.is("just as far, above", fitting(x, 1, 0, 333), 1);
        DUE.is("farther by a thousandth, below", fitting(x, 1, 1, 666), 6);
        DUE.is("just as far, below", fitting(x, 1, 1, 667), 7);
        DUE.is("a place far below", fitting(x, 0, Integer.MIN_VALUE, Integer.MAX_VALUE), 0);
        DUE.is("within the least", fitting(x, 0, 0, Integer.MIN_VALUE), 0);
        SamePlace six = new SamePlace();
        for (int i = 0; i < 6; i++) {
            Due.path(six, 0, 0, 0, i % 2);
        }
        DUE.is("the last of six, too", fitting(six, 600, 1, 0), 2 + 8 + 32);
    }

    private static void promise19Off() {
        SamePlace x = three();
        Due.read(x, "near 0;off 30*(minute<301)-30*(300<minute);worth 0;");
        x.force(1);
        DUE.is("by a clock ahead", fitting(x, 300, 330, 0), 4);
        DUE.is("by a clock behind", fitting(x, 330, 300, 0), 4);
        DUE.is("not below 0", fitting(x, 0, 30, 0), 4);
        Due.read(x, "near 0;off 60-120*(minute<60);worth 0;");
        x.force(2);
        DUE.is("0 at least", fitting(x, 59, 0, 0), 7);
        DUE.is("600 at most", fitting(x, 590, 400, 0), 2);
        Due.read(x, "near 0;off 30*way;worth 0;");
        x.force(3);
        DUE.is("off is told of each WAY", fitting(x, 240, 180, 0), 2);
        DUE.is("of WAY 2", fitting(x, 240, 300, 0), 4);
    }

    private static void promise19Refusals() {
        SamePlace x = three();
        DUE.is("fits(-1)", x.fits(-1), -2);
        DUE.is("fits(4)", x.fits(4), -2);
        DUE.is("fits(0): missing", x.fits(0), -11);
        DUE.is("four numbers", fitting(x, 0, 0, 0, 0), -2);
        DUE.is("two numbers", fitting(x, 0, 0), -2);
        DUE.is("MINUTE 601", fitting(x, 601, 0, 0), -2);
        DUE.is("MINUTE -1", fitting(x, -1, 0, 0), -2);
        DUE.is("MINUTE of a later row", fitting(x, 300, 999, 0, 601, 0, 0), -2);
        Due.lay(x, 0, 0, 200, 0, 0);
        DUE.is("200 is below 0 as a byte", x.fits(0), -2);
        SamePlace none = new SamePlace();
        DUE.is("no WAYS, and no MINUTE", fitting(none, 601, 0, 0), -2);
    }

    private static void promise20() {
        SamePlace x = three();
        Due.lay(x, 0, 2, 300, 320, 0);
        DUE.is("one clock", x.wrong(0, 2, 0), 1);
        DUE.is("20 ahead", x.wrong(0, 2, 1), 20);
        DUE.is("none", x.wrong(0, 0, 0), 0);
        DUE.is("none: 99", x.wrong(0, 0, 1), 99);
        Due.lay(x, 0, 2, 300, 360, 0);
        DUE.is("60 ahead", x.wrong(0, 2, 1), 60);
        Due.lay(x, 0, 2, 300, 361, 0);
        DUE.is("61 ahead is none", x.wrong(0, 2, 0), 0);
        Due.lay(x, 0, 2, 300, 240, 0);
        DUE.is("60 behind", x.wrong(0, 2, 1), -60);
        Due.lay(x, 0, 2, 300, 300, 5000);
        DUE.is("five to both sides", x.wrong(0, 2, 0), 11);
        DUE.is("none is needed", x.wrong(0, 2, 1), 0);
        Due.lay(x, 0, 2);
        DUE.is("no NOTES: any clock", x.wrong(0, 2, 0), 121);
        DUE.is("no NOTES: 0", x.wrong(0, 2, 1), 0);
        Due.lay(x, 0, 2, 590, 600, 0);
        DUE.is("600 at most", x.wrong(0, 2, 0), 51);
        DUE.is("600 at most: the nearest", x.wrong(0, 2, 1), 10);
        Due.lay(x, 0, 2, 10, 0, 0);
        DUE.is("0 at least", x.wrong(0, 2, 0), 51);
        Due.read(x, "near 0;off 20;worth 0;");
        x.force(1);
        Due.lay(x, 0, 2, 300, 320, 0);
        DUE.is("off does not matter", x.wrong(0, 2, 1), 20);
        SamePlace y = new SamePlace();
        Due.path(y, 0, 0, 290, 10, 300, 0, 310, 10);
        Due.lay(y, 0, 2, 300, 7, 0);
        DUE.is("two like ones", y.wrong(0, 0, 0), 2);
        DUE.is("that below 0", y.wrong(0, 0, 1), -7);
    }

    private static void promise20Rows() {
        SamePlace x = three();
        Due.lay(x, 0, 2, 300, 300, 9000, 300, 310, 2000);
        DUE.is("rows leave 8 and 9", x.wrong(0, 2, 0), 2);
        DUE.is("the nearest by both rows", x.wrong(0, 2, 1), 8);
        Due.lay(x, 0, 2, 0, 0, 60000, 300, 300, 60000, 300, 250, 0);
        DUE.is("the third row tells", x.wrong(0, 2, 0), 1);
        DUE.is("the nearest by the third", x.wrong(0, 2, 1), -50);
        Due.lay(x, 0, 2, 300, 300, 0, 300, 301, 0);
        DUE.is("rows that rule out one another", x.wrong(0, 2, 0), 0);
        DUE.is("rows that rule out one another: 99", x.wrong(0, 2, 1), 99);
        Due.lay(x, 0, 2, 300, 300, 60000);
        DUE.is("just all clocks", x.wrong(0, 2, 0), 121);
        Due.lay(x, 0, 2, 300, 300, 59999);
        DUE.is("all but those at both ends", x.wrong(0, 2, 0), 119);
        Due.lay(x, 0, 2, 0, Integer.MAX_VALUE, Integer.MAX_VALUE);
        DUE.is("a place far off", x.wrong(0, 2, 0), 0);
        Due.lay(x, 0, 2, 600, 600, 0);
        DUE.is("600 at most, in 600", x.wrong(0, 2, 0), 61);
        Due.lay(x, 0, 2, 0, 0, 0);
        DUE.is("0 at least, in 0", x.wrong(0, 2, 0), 61);
    }

    private static void promise20Refusals() {
        SamePlace x = three();
        Due.lay(x, 0, 2, 0, 0, 0);
        DUE.is("wrong(-1, 0, 0)", x.wrong(-1, 0, 0), -1000);
        DUE.is("wrong(4, 0, 0)", x.wrong(4, 0, 0), -1000);
        DUE.is("wrong(0, 3, 0)", x.wrong(0, 3, 0), -1000);
        DUE.is("wrong(0, -1, 0)", x.wrong(0, -1, 0), -1000);
        DUE.is("wrong(0, 0, 2)", x.wrong(0, 0, 2), -1000);
        DUE.is("wrong(0, 0, -1)", x.wrong(0, 0, -1), -1000);
        DUE.is("missing", x.wrong(1, 0, 0), -1000);
        Due.lay(x, 1, 2, 0, 0);
        DUE.is("its size", x.wrong(1, 0, 0), -1000);
        Due.lay(x, 1, 2, 0, 0, 0, 601, 0, 0);
        DUE.is("a MINUTE", x.wrong(1, 0, 0), -1000);
        DUE.is("as it was", x.wrong(0, 0, 1), 0);
    }

    private static void signposts(String what, SamePlace x, int set) {
        DUE.is(what + ": which", x.posts(0), set);
        DUE.is(what + ": how many", x.posts(1), set < 0 ? set : Integer.bitCount(set));
    }

    private static void promise21() {
        SamePlace x = new SamePlace();
        signposts("no WAYS", x, 0);
        x.way(0, 0);
        signposts("one WAY", x, 0);
        x.way(0, 0);
        signposts("two alike", x, -1);
        Due.lay(x, 0, 2, 1, 61, 5, 1, 600, 5);
        x.point(1, 599, 0);
        x.point(1, 600, 5);
        signposts("unlike in 600 alone", x, 1 << 10);
        x.clear(1);
        x.point(1, 61, 0);
        x.point(1, 62, 5);
        x.point(1, 118, 5);
        x.point(1, 119, 0);
        signposts("unlike between signposts alone", x, -1);
        DUE.is("posts(-1)", x.posts(-1), -2);
        DUE.is("posts(2)", x.posts(2), -2);
        signposts("three", three(), 2);
    }

    /** Any two of three WAYS are unlike in one MINUTE alone, and no MINUTE tells all. */
    private static void promise21Least() {
        SamePlace x = new SamePlace();
        Due.path(x, 0, 0, 59, 0, 60, 5, 61, 0);
        Due.path(x, 0, 0, 119, 0, 120, 5, 121, 0);
        x.way(0, 0);
        signposts("two of them", x, 6);
        Due.path(x, 0, 0, 59, 0, 60, 7, 61, 0, 299, 0, 300, 7, 301, 0);
        signposts("fewest, then the least", x, 6);
        Due.path(x, 0, 0, 59, 0, 60, 5, 61, 0, 299, 0, 300, 7, 301, 0);
        signposts("three of them", x, 38);
        SamePlace y = new SamePlace();
        Due.path(y, 0, 0, 0, 0, 60, 0, 61, 0, 120, 1);
        Due.path(y, 0, 0, 0, 0, 119, 0, 120, 2);
        Due.path(y, 0, 0, 0, 1, 1, 0, 60, 1, 61, 0);
        signposts("one late that tells all ahead of two early", y, 4);
    }

    private static void promise21Ends() {
        SamePlace x = new SamePlace();
        x.way(0, 0);
        Due.path(x, 0, 0, 0, 1, 1, 0);
        signposts("unlike in 0 alone", x, 1);
        x.clear(1);
        x.point(1, 1, 0);
        x.point(1, 2, 5);
        x.point(1, 59, 5);
        x.point(1, 60, 0);
        signposts("unlike between 0 and 60 alone", x, -1);
        // A LATE one by 90 comes to 510 alone in MINUTE 600: what it would do in 660 counts nowhere.
        SamePlace y = new SamePlace();
        y.way(0, 0);
        Due.path(y, 1, 9, 510, 0, 511, 5);
        signposts("unlike behind 600 alone", y, -1);
        y.set(1, 1, 8);
        signposts("unlike in 600, less late", y, 1 << 10);
        SamePlace z = new SamePlace();
        z.way(0, 0);
        Due.path(z, 0, 0, 59, 0, 60, 1, 118, 1, 119, 0, 539, 0, 540, 1, 541, 0);
        signposts("unlike in 60 and in 540: the least", z, 2);
        z.clear(1);
        z.point(1, 0, 0);
        z.point(1, 600, 1);
        // In MINUTE 60 it is 100 thousandths on already.
        signposts("unlike by thousandths", z, 2);
    }

    /** Each pair of six counts: two that are alike are enough that none tells all. */
    private static void promise21Pairs() {
        for (int one = 0; one < 6; one++) {
            for (int other = 0; other < one; other++) {
                SamePlace x = new SamePlace();
                for (int i = 0; i < 6; i++) {
                    Due.path(x, 0, 0, 0, i == other ? one : i);
                }
                signposts("alike " + other + " and " + one, x, -1);
            }
        }
        SamePlace x = new SamePlace();
        for (int i = 0; i < 6; i++) {
            Due.path(x, 0, 0, 0, i);
        }
        signposts("six unlike ones", x, 1);
        SamePlace y = new SamePlace();
        for (int i = 0; i < 5; i++) {
            Due.path(y, 0, 0, 120 * i + 119, 0, 120 * i + 120, 9, 120 * i + 121, 0);
        }
        y.way(0, 0);
        // Each is apart from the last one in its own MINUTE alone: as many signposts as six WAYS can need.
        signposts("five of them", y, (1 << 2) + (1 << 4) + (1 << 6) + (1 << 8) + (1 << 10));
    }

    private NotesTest() {
    }
}
