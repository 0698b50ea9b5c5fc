import java.util.ArrayList;
import java.util.List;
import java.util.function.ToLongFunction;

/**
 * Refusals and questions change nothing: behind each of them an object answers all that can be asked of it as its twin
 * does, to which it was not put; and no question leaves anything behind that another one would hear.
 */
final class RefusalsTest {
    private static final Due DUE = new Due("RefusalsTest");
    private static final int LEAST = Integer.MIN_VALUE;
    private static final int MOST = Integer.MAX_VALUE;
    private static final long NO = SamePlace.NO;

    private static final String TEXT = "near 9-points;off way;worth pace;";
    private static final String BEGUN = "near 77;off 8;wor";

    private interface Call extends ToLongFunction<SamePlace> {
    }

    public static void main(String[] args) {
        pathsRefusals();
        waysRefusals();
        twosRefusals();
        notesRefusals();
        ringsRefusals();
        hostsRefusals();
        copysRefusals();
        fullRefusals();
        emptyRefusals();
        questions();
        pairsOfQuestions();
        DUE.finish();
    }

    /** Of all there is something, and of nothing as much as has room. */
    private static SamePlace some() {
        SamePlace x = new SamePlace();
        x.set(0, 0, 700);
        Due.path(x, 3, 1, 0, 10, 50, 20);
        Due.path(x, 2, 7, 300, 0, 301, 650, 600, 5);
        Due.read(x, TEXT);
        x.image();
        x.force(1);
        Due.path(x, 5, 2, 40, 61);
        x.point(0, 90, 100);
        x.set(1, 1, 8);
        Due.feed(x, BEGUN);
        Due.lay(x, 0, 2, 50, 20, 99999, 90, -1, MOST);
        Due.lay(x, 1, 0, 1, -2, 3, 0);
        Due.lay(x, 2, 1, 400, 5, -6);
        return x;
    }

    /** Of all but SHEETS there is as much as has room. */
    private static SamePlace full() {
        SamePlace x = new SamePlace();
        for (int i = 0; i < 6; i++) {
            Due.path(x, i, i, 10 * i, i);
        }
        for (int i = 1; i < 8; i++) {
            x.point(0, 10 * i, 20 * i);
        }
        for (int i = 1; i < 6; i++) {
            Due.read(x, "near " + i + ";off 0;worth 0;");
        }
        Due.feed(x, " ".repeat(160));
        x.force(5);
        return x;
    }

    private static void stays(String call, long due, Call made) {
        SamePlace x = some();
        DUE.is(call, made.applyAsLong(x), due);
        same(call, all(x), all(some()));
    }

    private static void same(String call, List<Long> now, List<Long> before) {
        DUE.holds(call + " changes nothing: " + now + ", " + before, now.equals(before));
    }

    /** All that can be told of an object; it is used up by that. */
    private static List<Long> all(SamePlace x) {
        List<Long> is = new ArrayList<>();
        path(x, is);
        sheets(x, is);
        is.add((long) Due.read(x, "th 9;"));
        is.add((long) x.count(4));
        for (int text = 0; text < 3; text++) {
            is.add((long) x.force(text));
            is.add((long) x.asks(0, 0, 0));
            is.add((long) x.asks(2, 0, 91));
        }
        is.add((long) x.back());
        path(x, is);
        return is;
    }

    private static void path(SamePlace x, List<Long> is) {
        for (int what = 0; what < 6; what++) {
            is.add((long) x.count(what));
        }
        for (int way = 0; way < x.count(0); way++) {
            int n = 3 + 2 * x.told(way, 2);
            for (int what = 0; what < n; what++) {
                is.add((long) x.told(way, what));
            }
        }
    }

    /** Of each SHEET its size, its sort, and whether its numbers are those that some() told. */
    private static void sheets(SamePlace x, List<Long> is) {
        int[][] told = {{50, 20, 99999, 90, -1, MOST}, {1, -2, 3, 0}, {400, 5, -6}, {}};
        int[] sorts = {2, 0, 1, -1};
        is.add((long) x.cell(3, 0, 0));
        for (int sheet = 0; sheet < 3; sheet++) {
            for (int i = 0; i < told[sheet].length; i++) {
                // A ring of the number, 0, the number that is due, 0: W is 0 in place 0, if they are alike.
                Due.lay(x, 3, sorts[sheet], 0, 0, told[sheet][i], 0);
                is.add((long) x.copy(sheet, i, 3, 0, 1));
                is.add((long) x.heat(3));
            }
            is.add((long) x.cell(sheet, told[sheet].length, 0));
        }
    }

    private static void pathsRefusals() {
        stays("set(0, 0, 9)", -2, x -> x.set(0, 0, 9));
        stays("set(0, 0, 1000)", -2, x -> x.set(0, 0, 1000));
        stays("set(0, 0, 649)", -3, x -> x.set(0, 0, 649));
        stays("set(1, 3, 0)", -2, x -> x.set(1, 3, 0));
        stays("set(1, -1, 0)", -2, x -> x.set(1, -1, 0));
        stays("set(1, 0, 10)", -2, x -> x.set(1, 0, 10));
        stays("set(1, 0, -1)", -2, x -> x.set(1, 0, -1));
        stays("set(2, 0, 5)", -2, x -> x.set(2, 0, 5));
        stays("set(-1, 0, 5)", -2, x -> x.set(-1, 0, 5));
        stays("way(6, 0)", -2, x -> x.way(6, 0));
        stays("way(-1, 0)", -2, x -> x.way(-1, 0));
        stays("way(0, 10)", -2, x -> x.way(0, 10));
        stays("way(0, -1)", -2, x -> x.way(0, -1));
        stays("point(3, 0, 0)", -2, x -> x.point(3, 0, 0));
        stays("point(-1, 0, 0)", -2, x -> x.point(-1, 0, 0));
        stays("point(0, 90, 0)", -2, x -> x.point(0, 90, 0));
        stays("point(0, 601, 0)", -2, x -> x.point(0, 601, 0));
        stays("point(2, -1, 0)", -2, x -> x.point(2, -1, 0));
        stays("point(0, 91, 701)", -2, x -> x.point(0, 91, 701));
        stays("point(0, 91, -1)", -2, x -> x.point(0, 91, -1));
        stays("clear(3)", -2, x -> x.clear(3));
        stays("clear(-1)", -2, x -> x.clear(-1));
        stays("told(3, 0)", -2, x -> x.told(3, 0));
        stays("told(0, 9)", -2, x -> x.told(0, 9));
        stays("told(0, -1)", -2, x -> x.told(0, -1));
        stays("feed(-1)", -2, x -> x.feed(-1));
        stays("feed(256)", -2, x -> x.feed(256));
        stays("feed(most)", -2, x -> x.feed(MOST));
        stays("force(2)", -2, x -> x.force(2));
        stays("force(-1)", -2, x -> x.force(-1));
        stays("count(6)", -2, x -> x.count(6));
        stays("count(-1)", -2, x -> x.count(-1));
    }

    private static void waysRefusals() {
        stays("at(3, 0)", -2, x -> x.at(3, 0));
        stays("at(0, 601)", -2, x -> x.at(0, 601));
        stays("at(0, -1)", -2, x -> x.at(0, -1));
        stays("asks(3, 0, 0)", -1000, x -> x.asks(3, 0, 0));
        stays("asks(0, 3, 0)", -1000, x -> x.asks(0, 3, 0));
        stays("asks(0, 0, 601)", -1000, x -> x.asks(0, 0, 601));
        stays("asks(-1, -1, -1)", -1000, x -> x.asks(-1, -1, -1));
        stays("length(3, 0, 0)", -2, x -> x.length(3, 0, 0));
        stays("length(0, 5, 4)", -2, x -> x.length(0, 5, 4));
        stays("length(0, -1, 601)", -2, x -> x.length(0, -1, 601));
        stays("mean(3, 1)", -2, x -> x.mean(3, 1));
        stays("mean(0, 0)", -2, x -> x.mean(0, 0));
        stays("mean(0, 301)", -2, x -> x.mean(0, 301));
        stays("half(3, 0)", -2, x -> x.half(3, 0));
        stays("half(0, 3)", -2, x -> x.half(0, 3));
        stays("half(0, -1)", -2, x -> x.half(0, -1));
        stays("taken(3, 0)", -11, x -> x.taken(3, 0));
        stays("taken(0, 6)", -2, x -> x.taken(0, 6));
        stays("taken(0, 2)", -13, x -> x.taken(0, 2));
    }

    private static void twosRefusals() {
        stays("meet(0, 0, 0)", -2, x -> x.meet(0, 0, 0));
        stays("meet(0, 3, 0)", -2, x -> x.meet(0, 3, 0));
        stays("meet(0, 1, 4)", -2, x -> x.meet(0, 1, 4));
        stays("when(0, 0, 0)", NO, x -> x.when(0, 0, 0));
        stays("when(3, 0, 0)", NO, x -> x.when(3, 0, 0));
        stays("when(0, 1, 2)", NO, x -> x.when(0, 1, 2));
        stays("sure(1, 1)", -2, x -> x.sure(1, 1));
        stays("sure(0, 3)", -2, x -> x.sure(0, 3));
        stays("apart(2, 2, 0)", -2, x -> x.apart(2, 2, 0));
        stays("apart(3, 0, 0)", -2, x -> x.apart(3, 0, 0));
        stays("apart(0, 1, 3)", -2, x -> x.apart(0, 1, 3));
        stays("drawn(0, 0, 0)", -2, x -> x.drawn(0, 0, 0));
        stays("drawn(0, 9, 0)", -2, x -> x.drawn(0, 9, 0));
        stays("drawn(0, 8, 3)", -2, x -> x.drawn(0, 8, 3));
        stays("chance(0, 0, 0, 0)", NO, x -> x.chance(0, 0, 0, 0));
        stays("chance(0, 21, 0, 0)", NO, x -> x.chance(0, 21, 0, 0));
        stays("chance(0, 1, 3, 0)", NO, x -> x.chance(0, 1, 3, 0));
        stays("chance(0, 1, 0, 2)", NO, x -> x.chance(0, 1, 0, 2));
    }

    private static void notesRefusals() {
        stays("fits(4)", -2, x -> x.fits(4));
        stays("fits(-1)", -2, x -> x.fits(-1));
        stays("fits(3)", -11, x -> x.fits(3));
        stays("fits(1): its size", -2, x -> x.fits(1));
        stays("wrong(4, 0, 0)", -1000, x -> x.wrong(4, 0, 0));
        stays("wrong(3, 0, 0)", -1000, x -> x.wrong(3, 0, 0));
        stays("wrong(1, 0, 0)", -1000, x -> x.wrong(1, 0, 0));
        stays("wrong(0, 3, 0)", -1000, x -> x.wrong(0, 3, 0));
        stays("wrong(0, 0, 2)", -1000, x -> x.wrong(0, 0, 2));
        stays("posts(2)", -2, x -> x.posts(2));
        stays("posts(-1)", -2, x -> x.posts(-1));
    }

    private static void ringsRefusals() {
        stays("beads(4)", -2, x -> x.beads(4));
        stays("beads(3)", -11, x -> x.beads(3));
        stays("beads(2)", -2, x -> x.beads(2));
        stays("heat(4)", -2, x -> x.heat(4));
        stays("heat(3)", -11, x -> x.heat(3));
        stays("heat(2)", -2, x -> x.heat(2));
    }

    private static void hostsRefusals() {
        stays("sheet(4, 0, 0)", -2, x -> x.sheet(4, 0, 0));
        stays("sheet(-1, -1, 0)", -2, x -> x.sheet(-1, -1, 0));
        stays("sheet(0, 3, 6)", -2, x -> x.sheet(0, 3, 6));
        stays("sheet(0, -2, 6)", -2, x -> x.sheet(0, -2, 6));
        stays("sheet(0, 2, 41)", -2, x -> x.sheet(0, 2, 41));
        stays("sheet(0, 1, 41)", -2, x -> x.sheet(0, 1, 41));
        stays("sheet(0, 2, -1)", -14, x -> x.sheet(0, 2, -1));
        stays("sheet(3, 0, least)", -14, x -> x.sheet(3, 0, LEAST));
        stays("cell(4, 0, 5)", -2, x -> x.cell(4, 0, 5));
        stays("cell(3, 0, 5)", -11, x -> x.cell(3, 0, 5));
        stays("cell(0, 6, 5)", -12, x -> x.cell(0, 6, 5));
        stays("cell(0, -1, 5)", -12, x -> x.cell(0, -1, 5));
        stays("points(4, 2, 0, 1)", -2, x -> x.points(4, 2, 0, 1));
        stays("points(0, 3, 0, 1)", -2, x -> x.points(0, 3, 0, 1));
        stays("points(0, 2, 0, 14)", -2, x -> x.points(0, 2, 0, 14));
        stays("points(0, 1, 0, 1)", -13, x -> x.points(0, 1, 0, 1));
        stays("points(3, 2, 0, 1)", -11, x -> x.points(3, 2, 0, 1));
        stays("points(0, 2, 4, 1)", -12, x -> x.points(0, 2, 4, 1));
        stays("points(0, 2, 0, 2): left out", 0, x -> x.points(0, 2, 0, 2));
    }

    private static void copysRefusals() {
        stays("copy(4, 0, 0, 0, 1)", -2, x -> x.copy(4, 0, 0, 0, 1));
        stays("copy(0, 0, -1, 0, 1)", -2, x -> x.copy(0, 0, -1, 0, 1));
        stays("copy(3, 0, 0, 0, 1)", -11, x -> x.copy(3, 0, 0, 0, 1));
        stays("copy(0, 0, 3, 0, 1)", -11, x -> x.copy(0, 0, 3, 0, 1));
        stays("copy(0, 0, 1, 0, 1)", -13, x -> x.copy(0, 0, 1, 0, 1));
        stays("copy(1, 0, 2, 0, 1)", -13, x -> x.copy(1, 0, 2, 0, 1));
        stays("copy(0, 0, 0, 3, 4): not even those with room", -12, x -> x.copy(0, 0, 0, 3, 4));
        stays("copy(0, 3, 0, 0, 4): not even those that are there", -12, x -> x.copy(0, 3, 0, 0, 4));
        stays("copy(0, -1, 0, 0, 2)", -12, x -> x.copy(0, -1, 0, 0, 2));
        stays("copy(0, 0, 0, -1, 2)", -12, x -> x.copy(0, 0, 0, -1, 2));
        stays("copy(0, 1, 0, 0, -1)", -12, x -> x.copy(0, 1, 0, 0, -1));
        stays("copy(0, 1, 0, 0, most)", -12, x -> x.copy(0, 1, 0, 0, MOST));
        stays("copy(0, 0, 0, 6, 0): none", 0, x -> x.copy(0, 0, 0, 6, 0));
    }

    private static void fullRefusals() {
        staysFull("way(0, 0)", -4, x -> x.way(0, 0));
        staysFull("point(0, 600, 0)", -4, x -> x.point(0, 600, 0));
        staysFull("feed(32)", -4, x -> x.feed(32));
        staysFull("text()", -4, SamePlace::text);
        staysFull("way(6, 0)", -2, x -> x.way(6, 0));
        staysFull("point(0, 70, 0)", -2, x -> x.point(0, 70, 0));
        staysFull("feed(256)", -2, x -> x.feed(256));
        staysFull("back()", -3, SamePlace::back);
    }

    private static void staysFull(String call, long due, Call made) {
        SamePlace x = full();
        SamePlace twin = full();
        DUE.is(call + ", FULL", made.applyAsLong(x), due);
        List<Long> now = new ArrayList<>();
        List<Long> before = new ArrayList<>();
        path(x, now);
        path(twin, before);
        for (int text = 0; text < 7; text++) {
            now.add((long) x.force(text));
            before.add((long) twin.force(text));
            now.add((long) x.asks(0, 5, 0));
            before.add((long) twin.asks(0, 5, 0));
        }
        now.add((long) x.back());
        before.add((long) twin.back());
        same(call + ", FULL", now, before);
    }

    /** What is refused while there is nothing leaves nothing. */
    private static void emptyRefusals() {
        SamePlace x = new SamePlace();
        DUE.is("back() of no IMAGE", x.back(), -3);
        DUE.is("point(0, 0, 0) of no WAYS", x.point(0, 0, 0), -2);
        DUE.is("clear(0) of no WAYS", x.clear(0), -2);
        DUE.is("at(0, 0) of no WAYS", x.at(0, 0), -2);
        DUE.is("asks(0, 0, 0) of no WAYS", x.asks(0, 0, 0), -1000);
        DUE.is("length(0, 0, 0) of no WAYS", x.length(0, 0, 0), -2);
        DUE.is("mean(0, 1) of no WAYS", x.mean(0, 1), -2);
        DUE.is("half(0, 0) of no WAYS", x.half(0, 0), -2);
        DUE.is("meet(0, 1, 0) of no WAYS", x.meet(0, 1, 0), -2);
        DUE.is("when(0, 1, 0) of no WAYS", x.when(0, 1, 0), NO);
        DUE.is("sure(0, 1) of no WAYS", x.sure(0, 1), -2);
        DUE.is("apart(0, 1, 0) of no WAYS", x.apart(0, 1, 0), -2);
        DUE.is("drawn(0, 1, 0) of no WAYS", x.drawn(0, 1, 0), -2);
        DUE.is("chance(0, 1, 0, 0) of no WAYS", x.chance(0, 1, 0, 0), NO);
        DUE.is("wrong(0, 0, 0) of no WAYS", x.wrong(0, 0, 0), -1000);
        DUE.is("text() of no bytes", x.text(), -100);
        DUE.is("back() yet", x.back(), -3);
        List<Long> now = new ArrayList<>();
        path(x, now);
        same("all these", now, List.of(0L, 600L, 0L, 1L, 0L, 0L));
    }

    private static final List<String> NAMES = List.of("told", "at", "asks", "length", "mean", "half", "BEST", "worth",
            "meet", "first", "odd", "when", "below", "sure", "apart", "NEAR", "fits", "wrong", "nearest", "posts",
            "beads", "heat", "drawn", "chance", "taken", "copy");

    private static long asked(SamePlace x, int question) {
        switch (question) {
            case 0: return x.told(0, 3);
            case 1: return x.at(1, 301);
            case 2: return x.asks(0, 2, 45);
            case 3: return x.length(1, 299, 600);
            case 4: return x.mean(1, 30);
            case 5: return x.half(0, 0);
            case 6: return x.half(1, 1);
            case 7: return x.half(1, 2);
            case 8: return x.meet(0, 2, 0);
            case 9: return x.meet(2, 1, 1);
            case 10: return x.meet(1, 0, 3);
            case 11: return x.when(1, 2, 0);
            case 12: return x.when(1, 2, 1);
            case 13: return x.sure(2, 1);
            case 14: return x.apart(1, 2, 0);
            case 15: return x.apart(0, 2, 2);
            case 16: return x.fits(0);
            case 17: return x.wrong(0, 0, 0);
            case 18: return x.wrong(0, 1, 1);
            case 19: return x.posts(0);
            case 20: return x.beads(1);
            case 21: return x.heat(1);
            case 22: return x.drawn(4, 7, 1);
            case 23: return x.chance(9, 12, 1, 1);
            case 24: return x.taken(2, 1);
            default: return x.copy(0, 2, 0, 2, 3);
        }
    }

    private static void questions() {
        for (int i = 0; i < NAMES.size(); i++) {
            int question = i;
            stays(NAMES.get(i), asked(some(), i), x -> asked(x, question));
        }
    }

    /** Each question behind each other one is answered as it is on an object of its own. */
    private static void pairsOfQuestions() {
        for (int i = 0; i < NAMES.size(); i++) {
            SamePlace x = some();
            for (int j = 0; j < NAMES.size(); j++) {
                asked(x, i);
                DUE.is(NAMES.get(j) + " behind " + NAMES.get(i), asked(x, j), asked(some(), j));
            }
        }
    }

    private RefusalsTest() {
    }
}
