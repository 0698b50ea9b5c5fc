/** Promises 29 to 33: sheet, cell, copy, points, taken. */
final class HostTest {
    private static final Due DUE = new Due("HostTest");
    private static final int LEAST = Integer.MIN_VALUE;
    private static final int MOST = Integer.MAX_VALUE;

    public static void main(String[] args) {
        promise29();
        promise29Anew();
        promise30();
        promise30Ends();
        promise31();
        promise31Refusals();
        promise31Sorts();
        promise32();
        promise32Sorts();
        promise32Refusals();
        promise32Outside();
        promise33();
        promise33Edges();
        DUE.finish();
    }

    /** Whether a SHEET of ints has these numbers. */
    private static boolean has(SamePlace x, int sheet, int... numbers) {
        for (int i = 0; i < numbers.length; i++) {
            Due.lay(x, 3, 2, 0, 0, numbers[i], 0);
            if (x.copy(sheet, i, 3, 0, 1) != 1 || !alikeAcross(x, 3)) {
                return false;
            }
        }
        return true;
    }

    /** Whether on a ring of four items 0 and 2 are alike, items 1 and 3 being so: else W is first 0 in place 1. */
    private static boolean alikeAcross(SamePlace x, int sheet) {
        return x.heat(sheet) == 0;
    }

    private static void promise29() {
        SamePlace x = new SamePlace();
        DUE.is("sheet(-1, 0, 0)", x.sheet(-1, 0, 0), -2);
        DUE.is("sheet(4, 0, 0)", x.sheet(4, 0, 0), -2);
        DUE.is("sheet(0, 3, 0)", x.sheet(0, 3, 0), -2);
        DUE.is("sheet(0, -2, 0)", x.sheet(0, -2, 0), -2);
        DUE.is("sheet(0, 0, 41)", x.sheet(0, 0, 41), -2);
        DUE.is("sheet(0, 0, most)", x.sheet(0, 0, MOST), -2);
        DUE.is("sheet(0, 0, -1)", x.sheet(0, 0, -1), -14);
        DUE.is("sheet(0, 2, least)", x.sheet(0, 2, LEAST), -14);
        DUE.is("BAD ahead of -14: sort", x.sheet(0, 3, -1), -2);
        DUE.is("BAD ahead of -14: SHEET", x.sheet(4, 0, -1), -2);
        DUE.is("it is missing yet", x.cell(0, 0, 0), -11);
        DUE.is("sheet(0, 0, 0)", x.sheet(0, 0, 0), 1);
        DUE.is("no items", x.cell(0, 0, 0), -12);
        DUE.is("sheet(3, 2, 40)", x.sheet(3, 2, 40), 1);
        DUE.is("item 39", x.cell(3, 39, 5), 1);
        DUE.is("item 40", x.cell(3, 40, 5), -12);
        DUE.is("a refusal leaves it", x.sheet(3, 2, 41), -2);
        DUE.is("item 39 yet", x.cell(3, 39, 5), 1);
        DUE.is("missing", x.sheet(3, -1, 0), 1);
        DUE.is("it is", x.cell(3, 0, 0), -11);
        DUE.is("missing: n below 0 does not matter", x.sheet(0, -1, -1), 1);
        DUE.is("it is, too", x.beads(0), -11);
        DUE.is("missing: n above 40 does not matter", x.sheet(0, -1, 41), 1);
        DUE.is("BAD: SHEET, missing", x.sheet(4, -1, 0), -2);
        Due.lay(x, 1, 2, 7, 7, 0, 0);
        DUE.is("two that aren't 0", x.beads(1), 1);
        x.sheet(1, 2, 4);
        DUE.is("all 0", x.beads(1), 0);
    }

    /** A SHEET made anew is all 0, of whatever sort and size it was. */
    private static void promise29Anew() {
        for (int was = 0; was < 3; was++) {
            for (int sort = 0; sort < 3; sort++) {
                SamePlace x = new SamePlace();
                Due.lay(x, 0, was, 1, 2, 3, 0, 0, 0);
                DUE.is("from sort " + was + " to " + sort, x.sheet(0, sort, 6), 1);
                DUE.is("all 0: else half of three would be from 2 on", x.beads(0), 0);
                x.cell(0, 0, 1);
                x.cell(0, 1, 1);
                DUE.is("all the others 0", x.beads(0), 1);
                DUE.is("it is of its sort", x.points(0, sort, 0, 0), 0);
                DUE.is("it is of no other one", x.points(0, (sort + 1) % 3, 0, 0), -13);
            }
        }
        SamePlace x = new SamePlace();
        Due.lay(x, 0, 2, 1, 2, 3, 4);
        x.sheet(0, -1, 4);
        DUE.is("missing ones are told nothing", x.cell(0, 0, 5), -11);
        x.sheet(0, 2, 2);
        DUE.is("smaller than it was", x.cell(0, 2, 5), -12);
        x.sheet(0, 2, 4);
        DUE.is("larger again: 0 behind, too", x.beads(0), 0);
        DUE.is("W is 0", x.heat(0), 0);
        DUE.is("sheet(0, least, 1)", x.sheet(0, LEAST, 1), -2);
        DUE.is("sheet(0, most, 1)", x.sheet(0, MOST, 1), -2);
        DUE.is("sheet(least, 0, 1)", x.sheet(LEAST, 0, 1), -2);
        DUE.is("sheet(most, 0, 1)", x.sheet(MOST, 0, 1), -2);
        DUE.is("missing, n least", x.sheet(1, -1, LEAST), 1);
        DUE.is("missing, n most", x.sheet(1, -1, MOST), 1);
        for (int sort = 0; sort < 3; sort++) {
            DUE.is("40 of sort " + sort, x.sheet(1, sort, 40), 1);
            DUE.is("41 of sort " + sort, x.sheet(1, sort, 41), -2);
            DUE.is("-1 of sort " + sort, x.sheet(1, sort, -1), -14);
            DUE.is("0 of sort " + sort, x.sheet(1, sort, 0), 1);
        }
    }

    private static void promise30() {
        SamePlace x = new SamePlace();
        DUE.is("cell(-1, 0, 0)", x.cell(-1, 0, 0), -2);
        DUE.is("cell(4, 0, 0)", x.cell(4, 0, 0), -2);
        DUE.is("missing", x.cell(0, 0, 0), -11);
        DUE.is("missing ahead of outside", x.cell(0, -1, 0), -11);
        x.sheet(0, 2, 2);
        DUE.is("cell(0, -1, 0)", x.cell(0, -1, 0), -12);
        DUE.is("cell(0, 2, 0)", x.cell(0, 2, 0), -12);
        DUE.is("cell(0, most, 0)", x.cell(0, MOST, 0), -12);
        DUE.is("cell(0, least, 0)", x.cell(0, LEAST, 0), -12);
        DUE.is("BAD ahead of outside", x.cell(4, -1, 0), -2);
        DUE.is("cell(0, 1, most)", x.cell(0, 1, MOST), 1);
        kept(2, MOST, MOST);
        kept(2, LEAST, LEAST);
        kept(1, 32767, 32767);
        kept(1, 32768, -32768);
        kept(1, 65536 + 5, 5);
        kept(1, -65537, -1);
        kept(0, 127, 127);
        kept(0, 128, -128);
        kept(0, 256 + 5, 5);
        kept(0, -257, -1);
    }

    private static void promise30Ends() {
        SamePlace x = new SamePlace();
        for (int sheet = 0; sheet < 4; sheet++) {
            x.sheet(sheet, sheet % 3, 40);
            DUE.is("item 0 of SHEET " + sheet, x.cell(sheet, 0, 1), 1);
            DUE.is("item 39 of SHEET " + sheet, x.cell(sheet, 39, 1), 1);
            DUE.is("item 40 of SHEET " + sheet, x.cell(sheet, 40, 1), -12);
            DUE.is("item -1 of SHEET " + sheet, x.cell(sheet, -1, 1), -12);
        }
        DUE.is("cell(most, 0, 0)", x.cell(MOST, 0, 0), -2);
        DUE.is("cell(least, 0, 0)", x.cell(LEAST, 0, 0), -2);
        kept(0, -128, -128);
        kept(0, -129, 127);
        kept(0, 255, -1);
        kept(0, LEAST, 0);
        kept(0, MOST, -1);
        kept(1, -32768, -32768);
        kept(1, -32769, 32767);
        kept(1, 65535, -1);
        kept(1, LEAST, 0);
        kept(1, MOST, -1);
        kept(2, 65536, 65536);
    }

    private static void kept(int sort, int v, int due) {
        SamePlace x = new SamePlace();
        Due.lay(x, 0, sort, v, 0, due, 0);
        DUE.holds("sort " + sort + ": " + v + " is kept as " + due, alikeAcross(x, 0));
        Due.lay(x, 0, sort, v, 0, due ^ 1, 0);
        DUE.holds("sort " + sort + ": " + v + " is not kept as " + (due ^ 1), !alikeAcross(x, 0));
        x.way(0, 0);
        // A WAY that stays in place 0 FITS a row of place 0, unless it is within less than 0.
        Due.lay(x, 0, sort, 0, 0, v);
        DUE.is("sort " + sort + ": the sign of " + v, x.fits(0), due < 0 ? 0 : 1);
    }

    private static void promise31() {
        SamePlace x = new SamePlace();
        Due.lay(x, 0, 2, 1, 2, 3, 4, 5, 6);
        Due.lay(x, 1, 2, 0, 0, 0, 0);
        DUE.is("copy(0, 2, 1, 1, 3)", x.copy(0, 2, 1, 1, 3), 3);
        DUE.holds("they came", has(x, 1, 0, 3, 4, 5));
        DUE.holds("they stay, too", has(x, 0, 1, 2, 3, 4, 5, 6));
        DUE.is("onto itself, on", x.copy(0, 0, 0, 2, 4), 4);
        DUE.holds("as they were, on", has(x, 0, 1, 2, 1, 2, 3, 4));
        Due.lay(x, 0, 2, 1, 2, 3, 4, 5, 6);
        DUE.is("onto itself, back", x.copy(0, 2, 0, 0, 4), 4);
        DUE.holds("as they were, back", has(x, 0, 3, 4, 5, 6, 5, 6));
        DUE.is("none, at the end", x.copy(0, 6, 1, 4, 0), 0);
        DUE.is("all", x.copy(1, 0, 1, 0, 4), 4);
    }

    private static void promise31Refusals() {
        SamePlace x = new SamePlace();
        Due.lay(x, 0, 2, 1, 2, 3);
        Due.lay(x, 1, 1, 1, 2, 3);
        Due.lay(x, 2, 2, 1, 2);
        DUE.is("copy(-1, ..)", x.copy(-1, 0, 0, 0, 1), -2);
        DUE.is("copy(4, ..)", x.copy(4, 0, 0, 0, 1), -2);
        DUE.is("copy(0, 0, -1, ..)", x.copy(0, 0, -1, 0, 1), -2);
        DUE.is("copy(0, 0, 4, ..)", x.copy(0, 0, 4, 0, 1), -2);
        DUE.is("BAD ahead of missing", x.copy(3, 0, 4, 0, 1), -2);
        DUE.is("missing", x.copy(3, 0, 0, 0, 1), -11);
        DUE.is("the other one missing", x.copy(0, 0, 3, 0, 1), -11);
        DUE.is("missing ahead of outside", x.copy(0, -1, 3, 0, 1), -11);
        DUE.is("unlike sorts", x.copy(0, 0, 1, 0, 1), -13);
        DUE.is("unlike sorts ahead of outside", x.copy(0, -1, 1, 0, -1), -13);
        DUE.is("unlike sorts, none of them", x.copy(0, 0, 1, 0, 0), -13);
        DUE.is("n below 0", x.copy(0, 0, 2, 0, -1), -12);
        DUE.is("n least", x.copy(0, 0, 2, 0, LEAST), -12);
        DUE.is("n most", x.copy(0, 1, 2, 1, MOST), -12);
        DUE.is("i below 0", x.copy(0, -1, 2, 0, 1), -12);
        DUE.is("i most", x.copy(0, MOST, 2, 0, 1), -12);
        DUE.is("j below 0", x.copy(0, 0, 2, -1, 1), -12);
        DUE.is("j most", x.copy(0, 0, 2, MOST, 1), -12);
        DUE.is("beyond the one", x.copy(0, 2, 2, 0, 2), -12);
        DUE.is("beyond the other one", x.copy(0, 0, 2, 1, 2), -12);
        DUE.is("none, behind the end", x.copy(0, 4, 2, 0, 0), -12);
        DUE.is("none, behind the other one's end", x.copy(0, 0, 2, 3, 0), -12);
    }

    /** Of each sort numbers come as they were, onto the same SHEET and onto another one. */
    private static void promise31Sorts() {
        for (int sort = 0; sort < 3; sort++) {
            SamePlace x = new SamePlace();
            x.way(0, 0);
            x.sheet(0, sort, 40);
            x.sheet(1, sort, 40);
            x.cell(0, 0, 100);
            x.cell(0, 39, 100);
            DUE.is("all forty of sort " + sort, x.copy(0, 0, 1, 0, 40), 40);
            DUE.is("41", x.copy(0, 0, 1, 0, 41), -12);
            DUE.is("39 from 1 on", x.copy(0, 1, 1, 0, 39), 39);
            DUE.is("40 from 1 on", x.copy(0, 1, 1, 0, 40), -12);
            DUE.is("39 to 1 on", x.copy(0, 0, 1, 1, 39), 39);
            DUE.is("40 to 1 on", x.copy(0, 0, 1, 1, 40), -12);
            DUE.is("the last to the last", x.copy(0, 39, 1, 39, 1), 1);
            DUE.is("none behind the last", x.copy(0, 40, 1, 40, 0), 0);
            DUE.is("none farther behind", x.copy(0, 41, 1, 0, 0), -12);
            DUE.is("none ahead of the first", x.copy(0, -1, 1, 0, 0), -12);
            DUE.is("none ahead of the other one's first", x.copy(0, 0, 1, -1, 0), -12);
            DUE.is("onto itself, where it is", x.copy(0, 0, 0, 0, 40), 40);
            x.sheet(2, sort, 0);
            DUE.is("none of no items", x.copy(2, 0, 2, 0, 0), 0);
            DUE.is("one of no items", x.copy(2, 0, 2, 0, 1), -12);
            DUE.is("one to no items", x.copy(0, 0, 2, 0, 1), -12);
            x.sheet(3, (sort + 1) % 3, 40);
            DUE.is("to another sort", x.copy(0, 0, 3, 0, 1), -13);
            DUE.is("from another sort", x.copy(3, 0, 0, 0, 1), -13);
            x.sheet(3, -1, 0);
            DUE.is("both missing", x.copy(3, 0, 3, 0, 0), -11);
        }
    }

    private static void promise32() {
        SamePlace x = new SamePlace();
        x.way(0, 0);
        x.way(0, 0);
        Due.lay(x, 0, 2, 99, 0, 10, 20, 1, 5, 6, 0, 10, 7, 0, 11, 601, 2, 5, 5, 1, 6, 7);
        DUE.is("none of them", x.points(0, 2, 1, 0), 0);
        DUE.is("no POINT came", x.count(2), 0);
        DUE.is("from 1 on, 6 of them", x.points(0, 2, 1, 6), 3);
        DUE.is("POINTS of WAY 0", x.told(0, 2), 1);
        DUE.is("its MINUTE", x.told(0, 3), 10);
        DUE.is("its place", x.told(0, 4), 20);
        DUE.is("POINTS of WAY 1", x.told(1, 2), 2);
        DUE.is("again: others are left out", x.points(0, 2, 1, 6), 0);
        SamePlace y = new SamePlace();
        y.way(0, 0);
        y.sheet(0, 1, 39);
        for (int i = 0; i < 13; i++) {
            y.cell(0, 3 * i + 1, i);
        }
        DUE.is("13 of them, of which 8 have room", y.points(0, 1, 0, 13), 8);
        DUE.is("8 POINTS", y.count(2), 8);
    }

    /** Of bytes and of shorts as of ints; numbers below 0 are none such, so that their rows are left out. */
    private static void promise32Sorts() {
        for (int sort = 0; sort < 3; sort++) {
            SamePlace x = new SamePlace();
            x.way(0, 0);
            x.way(0, 0);
            Due.lay(x, 0, sort, 1, 100, 50, -1, 101, 50, 1, -1, 50, 1, 101, -1, 2, 101, 50, 1, 100, 50, 1, 102, 60);
            DUE.is("seven rows of sort " + sort, x.points(0, sort, 0, 7), 2);
            DUE.is("POINTS of WAY 1", x.told(1, 2), 2);
            DUE.is("its last MINUTE", x.told(1, 5), 102);
            DUE.is("its last place", x.told(1, 6), 60);
            DUE.is("one row", x.points(0, sort, 3, 1), 0);
            DUE.is("a row from amid the others", x.points(0, sort, 11, 1), 0);
        }
        SamePlace x = new SamePlace();
        x.way(0, 0);
        Due.lay(x, 0, 0, 0, 200, 1, 0, 5, 200);
        DUE.is("200 is below 0 as a byte", x.points(0, 0, 0, 2), 0);
        Due.lay(x, 0, 1, 0, 600, 600, 0, 5, 600);
        DUE.is("600 is 600 as a short", x.points(0, 1, 0, 2), 1);
        DUE.is("its MINUTE", x.told(0, 3), 600);
    }

    private static void promise32Refusals() {
        SamePlace x = new SamePlace();
        x.way(0, 0);
        Due.lay(x, 0, 2, 0, 1, 1, 0, 2, 2, 0, 3);
        DUE.is("points(-1, ..)", x.points(-1, 2, 0, 1), -2);
        DUE.is("points(4, ..)", x.points(4, 2, 0, 1), -2);
        DUE.is("sort -1", x.points(0, -1, 0, 1), -2);
        DUE.is("sort 3", x.points(0, 3, 0, 1), -2);
        DUE.is("n below 0", x.points(0, 2, 0, -1), -2);
        DUE.is("n 14", x.points(0, 2, 0, 14), -2);
        DUE.is("BAD ahead of missing", x.points(1, 2, 0, 14), -2);
        DUE.is("BAD ahead of sort", x.points(0, 1, 0, 14), -2);
        DUE.is("of another sort", x.points(0, 1, 0, 1), -13);
        DUE.is("of another sort, ahead of outside", x.points(0, 0, 99, 1), -13);
        DUE.is("of another sort, none of them", x.points(0, 0, 0, 0), -13);
        DUE.is("missing", x.points(1, 0, 0, 1), -11);
        DUE.is("missing, taken for another sort", x.points(1, 2, 0, 0), -11);
        DUE.is("from below 0", x.points(0, 2, -1, 1), -12);
        DUE.is("from least", x.points(0, 2, LEAST, 1), -12);
        DUE.is("from most", x.points(0, 2, MOST, 13), -12);
        DUE.is("from the end", x.points(0, 2, 8, 1), -12);
        DUE.is("no POINT came", x.count(2), 0);
        DUE.is("none of them, from anywhere", x.points(0, 2, 99, 0), 0);
        DUE.is("the third is not whole", x.points(0, 2, 0, 3), -12);
        DUE.is("what stood ahead came", x.count(2), 2);
        DUE.is("its last place", x.told(0, 6), 2);
    }

    /** A row of which any item is outside is -12; what stood ahead came, and what is behind it doesn't. */
    private static void promise32Outside() {
        for (int size = 0; size < 9; size++) {
            SamePlace x = new SamePlace();
            x.way(0, 0);
            x.sheet(0, 2, size);
            for (int row = 0; 3 * row + 1 < size; row++) {
                x.cell(0, 3 * row + 1, row);
            }
            DUE.is(size + " numbers: three rows", x.points(0, 2, 0, 3), -12);
            DUE.is(size + " numbers: those that are whole", x.count(2), size / 3);
            DUE.is(size + " numbers: as many as are whole", x.points(0, 2, 0, size / 3), 0);
        }
        SamePlace x = new SamePlace();
        x.way(0, 0);
        x.sheet(0, 2, 40);
        DUE.is("13 of them to the end", x.points(0, 2, 1, 13), 1);
        DUE.is("13 of them, one beyond", x.points(0, 2, 2, 13), -12);
        DUE.is("one beyond the end", x.points(0, 2, 38, 1), -12);
        DUE.is("the last", x.points(0, 2, 37, 1), 0);
        DUE.is("from -1, where only one item is outside", x.points(0, 2, -1, 1), -12);
        DUE.is("from -3: the second would be inside", x.points(0, 2, -3, 2), -12);
        DUE.is("from 40", x.points(0, 2, 40, 1), -12);
        DUE.is("n most", x.points(0, 2, 0, MOST), -2);
        DUE.is("n least", x.points(0, 2, 0, LEAST), -2);
        DUE.is("sort most", x.points(0, MOST, 0, 1), -2);
        DUE.is("sort least", x.points(0, LEAST, 0, 1), -2);
        DUE.is("SHEET most", x.points(MOST, 2, 0, 1), -2);
        DUE.is("SHEET least", x.points(LEAST, 2, 0, 1), -2);
        DUE.is("no WAYS: all are left out", noWays(), 0);
    }

    private static int noWays() {
        SamePlace x = new SamePlace();
        x.sheet(0, 2, 39);
        return x.points(0, 2, 0, 13);
    }

    private static void promise33() {
        SamePlace x = new SamePlace();
        for (int kind = 0; kind < 6; kind++) {
            x.way(kind, 9 - kind);
        }
        // A row a KIND of the WAY, a column a k: whether it is that one or under it.
        String[] under = {"100000", "110000", "101000", "110100", "101010", "110001"};
        for (int kind = 0; kind < 6; kind++) {
            for (int k = 0; k < 6; k++) {
                DUE.is("taken(" + kind + ", " + k + ")", x.taken(kind, k), under[kind].charAt(k) == '1' ? 9 - kind : -13);
            }
        }
        DUE.is("taken(0, -1)", x.taken(0, -1), -2);
        DUE.is("taken(0, 6)", x.taken(0, 6), -2);
        DUE.is("taken(-1, 0)", x.taken(-1, 0), -11);
        DUE.is("taken(6, 0)", x.taken(6, 0), -11);
        DUE.is("BAD ahead of no WAY", x.taken(6, 6), -2);
        DUE.is("no WAY ahead of its KIND", new SamePlace().taken(0, 5), -11);
    }

    private static void promise33Edges() {
        SamePlace x = new SamePlace();
        DUE.is("no WAYS: BAD ahead", x.taken(0, 6), -2);
        DUE.is("no WAYS", x.taken(0, 0), -11);
        x.way(3, 0);
        DUE.is("NUMBER 0 is an answer", x.taken(0, 0), 0);
        DUE.is("NUMBER 0, by one between", x.taken(0, 1), 0);
        DUE.is("of another KIND", x.taken(0, 2), -13);
        x.set(1, 0, 9);
        DUE.is("its NUMBER of now", x.taken(0, 3), 9);
        DUE.is("taken(0, most)", x.taken(0, MOST), -2);
        DUE.is("taken(0, least)", x.taken(0, LEAST), -2);
        DUE.is("taken(most, 0)", x.taken(MOST, 0), -11);
        DUE.is("taken(least, 0)", x.taken(LEAST, 0), -11);
    }

    private HostTest() {
    }
}
