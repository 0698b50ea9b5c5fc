/** Promises 29 to 33: sheet, cell, copy, points, taken. */
final class HostTest {
    private static final Due DUE = new Due("HostTest");
    private static final int LEAST = Integer.MIN_VALUE;
    private static final int MOST = Integer.MAX_VALUE;

    public static void main(String[] args) {
        promise29();
        promise30();
        promise31();
        promise31Refusals();
        promise32();
        promise32Refusals();
        promise33();
        DUE.finish();
    }

    /** Whether a SHEET of ints has these numbers. */
    private static boolean has(SamePlace x, int sheet, int... numbers) {
        for (int i = 0; i < numbers.length; i++) {
            Due.lay(x, 3, 2, 0, 0, numbers[i], 0);
            if (x.copy(sheet, i, 3, 0, 1) != 1 || !alikeAcross(x, 3)) {
                return false;
            }
        }
        return true;
    }

    /** Whether on a ring of four items 0 and 2 are alike, items 1 and 3 being so: else W is first 0 in place 1. */
    private static boolean alikeAcross(SamePlace x, int sheet) {
        return x.heat(sheet) == 0;
    }

    private static void promise29() {
        SamePlace x = new SamePlace();
        DUE.is("sheet(-1, 0, 0)", x.sheet(-1, 0, 0), -2);
        DUE.is("sheet(4, 0, 0)", x.sheet(4, 0, 0), -2);
        DUE.is("sheet(0, 3, 0)", x.sheet(0, 3, 0), -2);
        DUE.is("sheet(0, -2, 0)", x.sheet(0, -2, 0), -2);
        DUE.is("sheet(0, 0, 41)", x.sheet(0, 0, 41), -2);
        DUE.is("sheet(0, 0, most)", x.sheet(0, 0, MOST), -2);
        DUE.is("sheet(0, 0, -1)", x.sheet(0, 0, -1), -14);
        DUE.is("sheet(0, 2, least)", x.sheet(0, 2, LEAST), -14);
        DUE.is("BAD ahead of -14: sort", x.sheet(0, 3, -1), -2);
        DUE.is("BAD ahead of -14: SHEET", x.sheet(4, 0, -1), -2);
        DUE.is("it is missing yet", x.cell(0, 0, 0), -11);
        DUE.is("sheet(0, 0, 0)", x.sheet(0, 0, 0), 1);
        DUE.is("no items", x.cell(0, 0, 0), -12);
        DUE.is("sheet(3, 2, 40)", x.sheet(3, 2, 40), 1);
        DUE.is("item 39", x.cell(3, 39, 5), 1);
        DUE.is("item 40", x.cell(3, 40, 5), -12);
        DUE.is("a refusal leaves it", x.sheet(3, 2, 41), -2);
        DUE.is("item 39 yet", x.cell(3, 39, 5), 1);
        DUE.is("missing", x.sheet(3, -1, 0), 1);
        DUE.is("it is", x.cell(3, 0, 0), -11);
        DUE.is("missing: n below 0 does not matter", x.sheet(0, -1, -1), 1);
        DUE.is("it is, too", x.beads(0), -11);
        DUE.is("missing: n above 40 does not matter", x.sheet(0, -1, 41), 1);
        DUE.is("BAD: SHEET, missing", x.sheet(4, -1, 0), -2);
        Due.lay(x, 1, 2, 7, 7, 0, 0);
        DUE.is("two that aren't 0", x.beads(1), 1);
        x.sheet(1, 2, 4);
        DUE.is("all 0", x.beads(1), 0);
    }

    private static void promise30() {
        SamePlace x = new SamePlace();
        DUE.is("cell(-1, 0, 0)", x.cell(-1, 0, 0), -2);
        DUE.is("cell(4, 0, 0)", x.cell(4, 0, 0), -2);
        DUE.is("missing", x.cell(0, 0, 0), -11);
        DUE.is("missing ahead of outside", x.cell(0, -1, 0), -11);
        x.sheet(0, 2, 2);
        DUE.is("cell(0, -1, 0)", x.cell(0, -1, 0), -12);
        DUE.is("cell(0, 2, 0)", x.cell(0, 2, 0), -12);
        DUE.is("cell(0, most, 0)", x.cell(0, MOST, 0), -12);
        DUE.is("cell(0, least, 0)", x.cell(0, LEAST, 0), -12);
        DUE.is("BAD ahead of outside", x.cell(4, -1, 0), -2);
        DUE.is("cell(0, 1, most)", x.cell(0, 1, MOST), 1);
        kept(2, MOST, MOST);
        kept(2, LEAST, LEAST);
        kept(1, 32767, 32767);
        kept(1, 32768, -32768);
        kept(1, 65536 + 5, 5);
        kept(1, -65537, -1);
        kept(0, 127, 127);
        kept(0, 128, -128);
        kept(0, 256 + 5, 5);
        kept(0, -257, -1);
    }

    private static void kept(int sort, int v, int due) {
        SamePlace x = new SamePlace();
        Due.lay(x, 0, sort, v, 0, due, 0);
        DUE.holds("sort " + sort + ": " + v + " is kept as " + due, alikeAcross(x, 0));
        Due.lay(x, 0, sort, v, 0, due ^ 1, 0);
        DUE.holds("sort " + sort + ": " + v + " is not kept as " + (due ^ 1), !alikeAcross(x, 0));
        x.way(0, 0);
        // A WAY that stays in place 0 FITS a row of place 0, unless it is within less than 0.
        Due.lay(x, 0, sort, 0, 0, v);
        DUE.is("sort " + sort + ": the sign of " + v, x.fits(0), due < 0 ? 0 : 1);
    }

    private static void promise31() {
        SamePlace x = new SamePlace();
        Due.lay(x, 0, 2, 1, 2, 3, 4, 5, 6);
        Due.lay(x, 1, 2, 0, 0, 0, 0);
        DUE.is("copy(0, 2, 1, 1, 3)", x.copy(0, 2, 1, 1, 3), 3);
        DUE.holds("they came", has(x, 1, 0, 3, 4, 5));
        DUE.holds("they stay, too", has(x, 0, 1, 2, 3, 4, 5, 6));
        DUE.is("onto itself, on", x.copy(0, 0, 0, 2, 4), 4);
        DUE.holds("as they were, on", has(x, 0, 1, 2, 1, 2, 3, 4));
        Due.lay(x, 0, 2, 1, 2, 3, 4, 5, 6);
        DUE.is("onto itself, back", x.copy(0, 2, 0, 0, 4), 4);
        DUE.holds("as they were, back", has(x, 0, 3, 4, 5, 6, 5, 6));
        DUE.is("none, at the end", x.copy(0, 6, 1, 4, 0), 0);
        DUE.is("all", x.copy(1, 0, 1, 0, 4), 4);
    }

    private static void promise31Refusals() {
        SamePlace x = new SamePlace();
        Due.lay(x, 0, 2, 1, 2, 3);
        Due.lay(x, 1, 1, 1, 2, 3);
        Due.lay(x, 2, 2, 1, 2);
        DUE.is("copy(-1, ..)", x.copy(-1, 0, 0, 0, 1), -2);
        DUE.is("copy(4, ..)", x.copy(4, 0, 0, 0, 1), -2);
        DUE.is("copy(0, 0, -1, ..)", x.copy(0, 0, -1, 0, 1), -2);
        DUE.is("copy(0, 0, 4, ..)", x.copy(0, 0, 4, 0, 1), -2);
        DUE.is("BAD ahead of missing", x.copy(3, 0, 4, 0, 1), -2);
        DUE.is("missing", x.copy(3, 0, 0, 0, 1), -11);
        DUE.is("the other one missing", x.copy(0, 0, 3, 0, 1), -11);
        DUE.is("missing ahead of outside", x.copy(0, -1, 3, 0, 1), -11);
        DUE.is("unlike sorts", x.copy(0, 0, 1, 0, 1), -13);
        DUE.is("unlike sorts ahead of outside", x.copy(0, -1, 1, 0, -1), -13);
        DUE.is("unlike sorts, none of them", x.copy(0, 0, 1, 0, 0), -13);
        DUE.is("n below 0", x.copy(0, 0, 2, 0, -1), -12);
        DUE.is("n least", x.copy(0, 0, 2, 0, LEAST), -12);
        DUE.is("n most", x.copy(0, 1, 2, 1, MOST), -12);
        DUE.is("i below 0", x.copy(0, -1, 2, 0, 1), -12);
        DUE.is("i most", x.copy(0, MOST, 2, 0, 1), -12);
        DUE.is("j below 0", x.copy(0, 0, 2, -1, 1), -12);
        DUE.is("j most", x.copy(0, 0, 2, MOST, 1), -12);
        DUE.is("beyond the one", x.copy(0, 2, 2, 0, 2), -12);
        DUE.is("beyond the other one", x.copy(0, 0, 2, 1, 2), -12);
        DUE.is("none, behind the end", x.copy(0, 4, 2, 0, 0), -12);
        DUE.is("none, behind the other one's end", x.copy(0, 0, 2, 3, 0), -12);
    }

    private static void promise32() {
        SamePlace x = new SamePlace();
        x.way(0, 0);
        x.way(0, 0);
        Due.lay(x, 0, 2, 99, 0, 10, 20, 1, 5, 6, 0, 10, 7, 0, 11, 601, 2, 5, 5, 1, 6, 7);
        DUE.is("none of them", x.points(0, 2, 1, 0), 0);
        DUE.is("no POINT came", x.count(2), 0);
        DUE.is("from 1 on, 6 of them", x.points(0, 2, 1, 6), 3);
        DUE.is("POINTS of WAY 0", x.told(0, 2), 1);
        DUE.is("its MINUTE", x.told(0, 3), 10);
        DUE.is("its place", x.told(0, 4), 20);
        DUE.is("POINTS of WAY 1", x.told(1, 2), 2);
        DUE.is("again: others are left out", x.points(0, 2, 1, 6), 0);
        SamePlace y = new SamePlace();
        y.way(0, 0);
        y.sheet(0, 1, 39);
        for (int i = 0; i < 13; i++) {
            y.cell(0, 3 * i + 1, i);
        }
        DUE.is("13 of them, of which 8 have room", y.points(0, 1, 0, 13), 8);
        DUE.is("8 POINTS", y.count(2), 8);
    }

    private static void promise32Refusals() {
        SamePlace x = new SamePlace();
        x.way(0, 0);
        Due.lay(x, 0, 2, 0, 1, 1, 0, 2, 2, 0, 3);
        DUE.is("points(-1, ..)", x.points(-1, 2, 0, 1), -2);
        DUE.is("points(4, ..)", x.points(4, 2, 0, 1), -2);
        DUE.is("sort -1", x.points(0, -1, 0, 1), -2);
        DUE.is("sort 3", x.points(0, 3, 0, 1), -2);
        DUE.is("n below 0", x.points(0, 2, 0, -1), -2);
        DUE.is("n 14", x.points(0, 2, 0, 14), -2);
        DUE.is("BAD ahead of missing", x.points(1, 2, 0, 14), -2);
        DUE.is("BAD ahead of sort", x.points(0, 1, 0, 14), -2);
        DUE.is("of another sort", x.points(0, 1, 0, 1), -13);
        DUE.is("of another sort, ahead of outside", x.points(0, 0, 99, 1), -13);
        DUE.is("of another sort, none of them", x.points(0, 0, 0, 0), -13);
        DUE.is("missing", x.points(1, 0, 0, 1), -11);
        DUE.is("missing, taken for another sort", x.points(1, 2, 0, 0), -11);
        DUE.is("from below 0", x.points(0, 2, -1, 1), -12);
        DUE.is("from least", x.points(0, 2, LEAST, 1), -12);
        DUE.is("from most", x.points(0, 2, MOST, 13), -12);
        DUE.is("from the end", x.points(0, 2, 8, 1), -12);
        DUE.is("no POINT came", x.count(2), 0);
        DUE.is("none of them, from anywhere", x.points(0, 2, 99, 0), 0);
        DUE.is("the third is not whole", x.points(0, 2, 0, 3), -12);
        DUE.is("what stood ahead came", x.count(2), 2);
        DUE.is("its last place", x.told(0, 6), 2);
    }

    private static void promise33() {
        SamePlace x = new SamePlace();
        for (int kind = 0; kind < 6; kind++) {
            x.way(kind, 9 - kind);
        }
        // A row a KIND of the WAY, a column a k: whether it is that one or under it.
        String[] under = {"100000", "110000", "101000", "110100", "101010", "110001"};
        for (int kind = 0; kind < 6; kind++) {
            for (int k = 0; k < 6; k++) {
                DUE.is("taken(" + kind + ", " + k + ")", x.taken(kind, k), under[kind].charAt(k) == '1' ? 9 - kind : -13);
            }
        }
        DUE.is("taken(0, -1)", x.taken(0, -1), -2);
        DUE.is("taken(0, 6)", x.taken(0, 6), -2);
        DUE.is("taken(-1, 0)", x.taken(-1, 0), -11);
        DUE.is("taken(6, 0)", x.taken(6, 0), -11);
        DUE.is("BAD ahead of no WAY", x.taken(6, 6), -2);
        DUE.is("no WAY ahead of its KIND", new SamePlace().taken(0, 5), -11);
    }

    private HostTest() {
    }
}
