/** Promises 10 and 12 to 14: at, length, mean, half. */
final class OneWayTest {
    private static final Due DUE = new Due("OneWayTest");

    public static void main(String[] args) {
        promise10Told();
        promise10Kinds();
        promise10Bounds();
        promise10Refusals();
        promise12();
        promise12Edges();
        promise13();
        promise13Far();
        promise14Half();
        promise14Again();
        promise14Best();
        DUE.finish();
    }

    private static void promise10Told() {
        SamePlace x = new SamePlace();
        x.way(0, 0);
        DUE.is("no POINTS", x.at(0, 300), 0);
        x.point(0, 100, 7);
        DUE.is("ahead of the only POINT", x.at(0, 0), 7000);
        DUE.is("in it", x.at(0, 100), 7000);
        DUE.is("behind it", x.at(0, 600), 7000);
        x.point(0, 103, 8);
        DUE.is("a third, cut", x.at(0, 101), 7333);
        DUE.is("two thirds, cut", x.at(0, 102), 7666);
        DUE.is("in the second", x.at(0, 103), 8000);
        x.point(0, 106, 7);
        DUE.is("going down, cut toward 0", x.at(0, 104), 7667);
        DUE.is("going down, further", x.at(0, 105), 7334);
        DUE.is("behind the last", x.at(0, 107), 7000);
        SamePlace y = new SamePlace();
        y.set(0, 0, 999);
        Due.path(y, 0, 0, 0, 0, 600, 999);
        DUE.is("the steepest that an int must hold", y.at(0, 599), 997335);
        DUE.is("its end", y.at(0, 600), 999000);
    }

    private static void promise10Kinds() {
        SamePlace x = new SamePlace();
        for (int kind = 0; kind < 6; kind++) {
            Due.path(x, kind, 3, 0, 100, 600, 400);
        }
        DUE.is("WAY in 100", x.at(0, 100), 150000);
        DUE.is("LATE in 0", x.at(1, 0), 100000);
        DUE.is("LATE in 29", x.at(1, 29), 100000);
        DUE.is("LATE in 30", x.at(1, 30), 100000);
        DUE.is("LATE in 31", x.at(1, 31), 100500);
        DUE.is("LATE in 600", x.at(1, 600), 385000);
        DUE.is("TURNED in 0", x.at(2, 0), 500000);
        DUE.is("TURNED in 101", x.at(2, 101), 449500);
        DUE.is("SLOW in 0", x.at(3, 0), 50000);
        DUE.is("SLOW in 31", x.at(3, 31), 50250);
        DUE.is("SLOW in 600", x.at(3, 600), 192500);
        DUE.is("HALTING in 3", x.at(4, 3), 500000);
        DUE.is("HALTING in 4", x.at(4, 4), 498000);
        DUE.is("HALTING in 7", x.at(4, 7), 498000);
        DUE.is("HALTING in 600", x.at(4, 600), 200000);
        DUE.is("WILD in 0", x.at(5, 0), 100000);
        DUE.is("WILD in 4", x.at(5, 4), 104000);
        DUE.is("WILD in 5", x.at(5, 5), 100000);
        DUE.is("WILD in 599", x.at(5, 599), 388500);
        x.set(1, 4, 0);
        DUE.is("HALTING by 0 is TURNED", x.at(4, 7), 496500);
        x.set(1, 5, 0);
        DUE.is("WILD by 0 in 1", x.at(5, 1), 101500);
        x.set(1, 1, 9);
        DUE.is("LATE by 9 in 91", x.at(1, 91), 100500);
        x.clear(2);
        DUE.is("TURNED without POINTS", x.at(2, 0), 600000);
        DUE.is("SLOW, cut", slowOfOdd(), 3833);
    }

    /** SLOW where a LATE is 7667. */
    private static int slowOfOdd() {
        SamePlace x = new SamePlace();
        Due.path(x, 3, 0, 0, 8, 3, 7);
        return x.at(0, 1);
    }

    private static void promise10Bounds() {
        SamePlace x = new SamePlace();
        x.set(0, 0, 10);
        Due.path(x, 5, 9, 0, 5);
        DUE.is("WILD below the bound", x.at(0, 5), 10000);
        DUE.is("WILD at the bound", x.at(0, 6), 10000);
        DUE.is("WILD far above it", x.at(0, 10), 10000);
        DUE.is("WILD begins anew", x.at(0, 11), 5000);
        x.set(0, 0, 12);
        DUE.is("WILD by another LONG", x.at(0, 10), 12000);
    }

    private static void promise10Refusals() {
        SamePlace x = new SamePlace();
        DUE.is("no WAY", x.at(0, 0), -2);
        x.way(0, 0);
        DUE.is("at(-1, 0)", x.at(-1, 0), -2);
        DUE.is("at(1, 0)", x.at(1, 0), -2);
        DUE.is("at(0, -1)", x.at(0, -1), -2);
        DUE.is("at(0, 601)", x.at(0, 601), -2);
        DUE.is("at(0, 600)", x.at(0, 600), 0);
    }

    private static void promise12() {
        SamePlace x = new SamePlace();
        Due.path(x, 0, 0, 100, 0, 200, 50, 300, 20);
        DUE.is("all", x.length(0, 0, 600), 80000);
        DUE.is("up", x.length(0, 0, 200), 50000);
        DUE.is("up and down", x.length(0, 199, 201), 800);
        DUE.is("where it stands", x.length(0, 300, 600), 0);
        DUE.is("one MINUTE", x.length(0, 150, 151), 500);
        DUE.is("from a MINUTE to it", x.length(0, 150, 150), 0);
        DUE.is("length(0, 151, 150)", x.length(0, 151, 150), -2);
        DUE.is("length(0, -1, 5)", x.length(0, -1, 5), -2);
        DUE.is("length(0, 0, 601)", x.length(0, 0, 601), -2);
        DUE.is("length(0, 601, 601)", x.length(0, 601, 601), -2);
        DUE.is("length(1, 0, 0)", x.length(1, 0, 0), -2);
        DUE.is("length(-1, 0, 0)", x.length(-1, 0, 0), -2);
        Due.path(x, 5, 0);
        DUE.is("WILD goes to and fro", x.length(1, 0, 600), 600000);
        DUE.is("WILD, a part", x.length(1, 3, 10), 7000);
    }

    private static void promise12Edges() {
        SamePlace x = new SamePlace();
        DUE.is("no WAY", x.length(0, 0, 0), -2);
        Due.path(x, 0, 0, 0, 0, 1, 5, 599, 5, 600, 12);
        DUE.is("the first MINUTE's", x.length(0, 0, 1), 5000);
        DUE.is("the last MINUTE's", x.length(0, 599, 600), 7000);
        DUE.is("from 600 to it", x.length(0, 600, 600), 0);
        DUE.is("from 0 to it", x.length(0, 0, 0), 0);
        DUE.is("length(0, -1, -1)", x.length(0, -1, -1), -2);
        DUE.is("length(0, 600, 601)", x.length(0, 600, 601), -2);
        DUE.is("length(0, 600, 599)", x.length(0, 600, 599), -2);
        DUE.is("length(0, 0, -1)", x.length(0, 0, -1), -2);
        DUE.is("length(0, most, most)", x.length(0, Integer.MAX_VALUE, Integer.MAX_VALUE), -2);
        DUE.is("length(0, least, 0)", x.length(0, Integer.MIN_VALUE, 0), -2);
        DUE.is("length(most, 0, 0)", x.length(Integer.MAX_VALUE, 0, 0), -2);
        SamePlace far = new SamePlace();
        far.set(0, 0, 999);
        zigzag(far);
        DUE.is("as far as a WAY goes", far.length(0, 0, 600), 7 * 999000);
    }

    /** From end to end in each of its first MINUTES, and then no more. */
    private static void zigzag(SamePlace x) {
        Due.path(x, 0, 0, 0, 0, 1, 999, 2, 0, 3, 999, 4, 0, 5, 999, 6, 0, 7, 999);
    }

    /** E is no int any more: 600 times LENGTH is up to 4,195,800,000, and t times LENGTH beyond 2,147,483,647. */
    private static void promise13Far() {
        SamePlace x = new SamePlace();
        x.set(0, 0, 999);
        zigzag(x);
        DUE.is("as long as half of all: four of seven, then three", x.mean(0, 300), 3);
        DUE.is("a third of all: three of seven, then two", x.mean(0, 200), 4);
        DUE.is("all of it ahead of a long rest", x.mean(0, 1), 6);
        // Its turns go between 999 and 1, then 593 MINUTES between 0 and 1: 7579 places, of which 300 MINUTES' share is 3789.5.
        Due.path(x, 5, 0, 0, 999, 1, 0, 2, 999, 3, 0, 4, 999, 5, 0, 6, 999, 7, 0);
        DUE.is("LENGTH of a WILD one", x.length(1, 0, 600), 7 * 998000 + 593000);
        DUE.is("its half", x.mean(1, 300), 3);
    }

    private static void promise13() {
        SamePlace x = new SamePlace();
        Due.path(x, 0, 0, 0, 0, 600, 600);
        DUE.is("even all along", x.mean(0, 300), 0);
        // It stands till 300, then goes 2 a MINUTE: the mean of t MINUTES is t.
        Due.path(x, 0, 0, 300, 0, 600, 600);
        DUE.is("100 MINUTES, just in 250", x.mean(1, 100), 250);
        DUE.is("1 MINUTE: below, then above", x.mean(1, 1), 299);
        DUE.is("300 MINUTES", x.mean(1, 300), 150);
        DUE.is("3 MINUTES: between", x.mean(1, 3), 298);
        // All of its way is in one MINUTE: 400 MINUTES stand ahead and behind it.
        Due.path(x, 0, 0, 0, 0, 1, 600);
        DUE.is("above, then below", x.mean(2, 7), 0);
        DUE.is("mean(0, 0)", x.mean(0, 0), -2);
        DUE.is("mean(0, 301)", x.mean(0, 301), -2);
        DUE.is("mean(0, 1)", x.mean(0, 1), 0);
        DUE.is("mean(-1, 1)", x.mean(-1, 1), -2);
        DUE.is("mean(3, 1)", x.mean(3, 1), -2);
        DUE.is("none that is the mean", noMean(), -1);
        DUE.is("just in the last", lastMean(), 350);
    }

    /** A third of it is in the first, a third in the 301st, a third in the last MINUTE: no 299 have two of them. */
    private static int noMean() {
        SamePlace x = new SamePlace();
        Due.path(x, 0, 0, 0, 0, 1, 10, 300, 10, 301, 20, 599, 20, 600, 30);
        return x.mean(0, 299);
    }

    /** 10 of 24 come in the last MINUTE, which is as much as 250 of 600; all others have less. */
    private static int lastMean() {
        SamePlace x = new SamePlace();
        Due.path(x, 0, 0, 0, 0, 1, 7, 299, 7, 300, 14, 599, 14, 600, 24);
        return x.mean(0, 250);
    }

    private static void promise14Half() {
        SamePlace x = new SamePlace();
        Due.path(x, 0, 0, 0, 0, 600, 600);
        DUE.is("half of an even way", x.half(0, 0), 300);
        Due.path(x, 0, 0, 100, 0, 101, 1, 500, 1, 501, 0);
        DUE.is("twice no less: just half", x.half(1, 0), 101);
        x.way(0, 0);
        DUE.is("it goes nowhere", x.half(2, 0), 0);
        Due.path(x, 0, 0, 599, 0, 600, 600);
        DUE.is("in the last MINUTE", x.half(3, 0), 600);
        DUE.is("half(-1, 0)", x.half(-1, 0), -2);
        DUE.is("half(4, 0)", x.half(4, 0), -2);
        DUE.is("half(0, -1)", x.half(0, -1), -2);
        DUE.is("half(0, 3)", x.half(0, 3), -2);
    }

    /** What was asked ahead, of another WAY or of two, leaves nothing behind. */
    private static void promise14Again() {
        SamePlace x = new SamePlace();
        Due.path(x, 0, 0, 0, 0, 600, 600);
        Due.path(x, 0, 0, 0, 600, 600, 300);
        DUE.is("they MEET", x.meet(1, 0, 1), 400);
        DUE.is("half behind meet", x.half(0, 0), 300);
        DUE.is("apart", x.apart(1, 0, 0), 600000);
        DUE.is("length behind apart", x.length(0, 0, 600), 600000);
        DUE.is("drawn", x.drawn(0, 1, 1), -1);
        DUE.is("half behind drawn", x.half(0, 0), 300);
        DUE.is("mean behind half", x.mean(1, 300), 0);
        DUE.is("meet behind mean", x.meet(1, 0, 1), 400);
    }

    private static void promise14Best() {
        SamePlace x = new SamePlace();
        Due.path(x, 0, 0, 0, 0, 600, 60);
        DUE.is("BEST by TEXT 0", x.half(0, 1), 600);
        DUE.is("its worth", x.half(0, 2), 60);
        DUE.is("half(1, 1)", x.half(1, 1), -2);
        DUE.is("half(1, 2)", x.half(1, 2), -2);
        DUE.is("half(-1, 1)", x.half(-1, 1), -2);
        best("50-(minute-70)*(minute-70)", 70, 50);
        // Of like ones the first.
        best("10*(20<minute)+5*(minute=20)", 21, 10);
        best("7", 0, 7);
        best("minute-600", 0, 0);
        best("minute", 99, 99);
        best("5+3*(minute=1)", 1, 8);
        best("minute<1", 0, 1);
        best("600<minute+1", 600, 1);
        best("599<minute+1", 599, 1);
    }

    /** BEST and its worth by an E, for a WAY without POINTS. */
    private static void best(String worth, int minute, int most) {
        SamePlace x = new SamePlace();
        x.way(0, 0);
        x.force(Due.read(x, "near 0;off 0;worth " + worth + ";"));
        DUE.is("BEST by worth " + worth, x.half(0, 1), minute);
        DUE.is("its worth by worth " + worth, x.half(0, 2), most);
    }

    private OneWayTest() {
    }
}
