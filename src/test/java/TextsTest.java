/** Promises 7 to 9 and 11: feed, text, force, asks. */
final class TextsTest {
    private static final Due DUE = new Due("TextsTest");

    public static void main(String[] args) {
        promise7();
        promise8();
        promise8Faults();
        promise8Tokens();
        promise8TooEarly();
        promise8Depth();
        promise8Ends();
        promise8After();
        promise9();
        promise11Names();
        promise11OneAhead();
        promise11Values();
        promise11Wrapping();
        promise11Bounds();
        promise11Refusals();
        DUE.finish();
    }

    private static void promise7() {
        SamePlace x = new SamePlace();
        DUE.is("feed(-1)", x.feed(-1), -2);
        DUE.is("feed(256)", x.feed(256), -2);
        DUE.is("THE TAPE is empty", x.count(4), 0);
        DUE.is("feed(0)", x.feed(0), 1);
        DUE.is("feed(255)", x.feed(255), 2);
        for (int i = 3; i <= 160; i++) {
            DUE.is("byte " + i, x.feed(32), i);
        }
        DUE.is("one more", x.feed(32), -4);
        DUE.is("BAD ahead of FULL", x.feed(256), -2);
        DUE.is("160 bytes", x.count(4), 160);
    }

    private static void promise8() {
        SamePlace x = new SamePlace();
        String plain = "near 1;off 2;worth 3;";
        DUE.is("a FAULT", Due.read(x, "near"), -104);
        DUE.is("THE TAPE is empty by a FAULT", x.count(4), 0);
        DUE.is("no TEXT came", x.count(3), 1);
        for (int i = 1; i <= 5; i++) {
            DUE.is("TEXT " + i, Due.read(x, plain), i);
            DUE.is("THE TAPE is empty", x.count(4), 0);
        }
        DUE.is("six TEXTS", x.count(3), 6);
        Due.feed(x, "$");
        DUE.is("FULL ahead of a FAULT", x.text(), -4);
        DUE.is("THE TAPE stays", x.count(4), 1);
        DUE.is("no TEXT forced", x.count(5), 0);
    }

    private static void fault(String text, int place) {
        SamePlace x = new SamePlace();
        DUE.is('"' + text + '"', Due.read(x, text), -100 - place);
    }

    private static void stands(String text) {
        SamePlace x = new SamePlace();
        DUE.is('"' + text + '"', Due.read(x, text), 1);
    }

    private static void promise8Faults() {
        stands("near1;off2;worth3;");
        stands("  near\n1 ; off 2 ; worth 3 ; \n ");
        stands("near 1*2+3-4<5 and not 6=7 or 8;off - - 1;worth(((1)));");
        stands("near 9999;off 0000;worth minute place;".replace("minute place", "minute*place"));
        fault("", 0);
        fault("   ", 3);
        fault("off 1;", 0);
        fault("near", 4);
        fault("near ;", 5);
        fault("near 1", 6);
        fault("near 1 near", 7);
        fault("near 1;worth 1;", 7);
        fault("near 1;off 1;worth 1", 20);
        fault("near 1;off 1;worth 1;;", 21);
        fault("near 1;off 1;worth 1; x", 22);
        fault("near 12345;off 1;worth 1;", 5);
        fault("near 00000;off 1;worth 1;", 5);
        fault("near 1 2;", 7);
        fault("near 1 minute;", 7);
        fault("near far places;", 9);
        fault("nearfar;", 0);
        fault("near near;", 5);
        fault("near Far;", 5);
        fault("near fAr;", 5);
        fault("near wayz;", 5);
        fault("near zway;", 5);
        fault("near way{;", 8);
        fault("near way`;", 8);
        fault("near 1:;", 6);
        fault("near 1/2;", 6);
        fault("near 1\t;", 6);
        fault("near 1\r;", 6);
        fault("near " + (char) 233 + ";", 5);
        fault("near 1" + (char) 0 + ";", 6);
        fault("near 1 < 2 < 3;", 11);
        fault("near 1 < 2 = 3;", 11);
        fault("near 1 < not 2;", 9);
        fault("near 1 + not 2;", 9);
        fault("near - not 2;", 7);
        fault("near + 2;", 5);
        fault("near 1 * ;", 9);
        fault("near 1 or ;", 10);
        fault("near 1 and or 1;", 11);
        fault("near ();", 6);
        fault("near (1;", 7);
        fault("near (1));", 8);
        fault("near 1);", 6);
        fault("near not;", 8);
        fault("near 1 not 2;", 7);
        fault("near 1 > 2;", 7);
        fault("near ) $;", 5);
        fault("near 12345 $;", 5);
        stands("near (1 < 2) < 3;off 1 < 2 and 2 < 3;worth not 1 < 2;");
    }

    /** Each TOKEN is as long as can be, and blanks may be left out where two would not run together. */
    private static void promise8Tokens() {
        stands("near(1);off-1;worth(2);");
        stands("near 1or 2and 3<4;off not(1);worth not-1;");
        stands("near 5;off 5;worth minute*60;");
        stands("near1;off0001;worth9999;");
        stands("\n\nnear\n\n1\n;\noff\n2\n;\nworth\n3\n;\n\n");
        fault("near minuteplace;", 5);
        fault("near 5minute;", 6);
        fault("near minute5;", 11);
        fault("near 1or2;off 1;worth 1or 2or;", 29);
        fault("near notminute;", 5);
        fault("near not5orminute;", 9);
        fault("near 1 offs;", 7);
        fault("near 1;of 1;", 7);
        fault("near 1;offs 1;", 7);
        fault("near 00001;", 5);
        fault("near 0 0;", 7);
        fault("near 1;;", 7);
        fault("near 1;near 1;", 7);
        fault("near 1;off 1;off 1;", 13);
        fault("worth 1;", 0);
        fault("minute;", 0);
        fault("5;", 0);
        fault(";", 0);
        fault(" \n ;", 3);
        fault("NEAR 1;", 0);
        fault("near off;", 5);
        fault("near worth;", 5);
        fault("near or 1;", 5);
        fault("near and 1;", 5);
        fault("near * 1;", 5);
        fault("near < 1;", 5);
        fault("near = 1;", 5);
        fault("near 1 - + 1;", 9);
        fault("near 1 <= 2;", 8);
        fault("near (1 or 2;", 12);
        fault("near ((1);", 9);
        fault("near 1(2);", 6);
        fault("near (1)(2);", 8);
        fault("near (1)2;", 8);
        fault("near 1 or 2 < 3 = 4;", 16);
        fault("near (1 < 2 < 3);", 12);
        fault("near " + (char) 127 + ";", 5);
        fault("near " + (char) 255 + ";", 5);
        fault((char) 0 + "near", 0);
        fault("near 1;off 1;worth 1; near 1;", 22);
        fault("near 1;off 1;worth 1;\t", 21);
        fault("near 1;off 1;worth 1;12345", 21);
        for (String more : new String[] {"5", "minute", "near", "or", "not", "(", ")", "-", "<", "zz"}) {
            fault("near 1;off 1;worth 1; " + more, 22);
        }
    }

    /** A text that ends too early: its size, with the blanks at its end. */
    private static void promise8TooEarly() {
        fault("n", 0);
        fault("near\n", 5);
        fault("near (", 6);
        fault("near (  ", 8);
        fault("near (1", 7);
        fault("near -", 6);
        fault("near not ", 9);
        fault("near 1 <", 8);
        fault("near 1 < ", 9);
        fault("near 1 =", 8);
        fault("near 1 +", 8);
        fault("near 1 -", 8);
        fault("near 1 *", 8);
        fault("near 1 or", 9);
        fault("near 1 and", 10);
        fault("near 1;", 7);
        fault("near 1; ", 8);
        fault("near 1;off", 10);
        fault("near 1;off 1;", 13);
        fault("near 1;off 1;worth", 18);
        fault("near 1;off 1;worth 1  ", 22);
        // A TOKEN that can't stand there is first, though the text ends too early as well.
        fault("near 1 or or", 10);
        fault("near ((((((", 10);
    }

    private static void promise8Depth() {
        stands("near (((((1)))));off 0;worth 0;");
        fault("near ((((((1))))));off 0;worth 0;", 10);
        stands("near -----1;off 0;worth 0;");
        fault("near ------1;off 0;worth 0;", 10);
        stands("near not not not not not 1;off 0;worth 0;");
        fault("near not not not not not not 1;", 25);
        fault("near not not not not not -1;", 25);
        fault("near not not not not not (1);", 25);
        fault("near not(-(-(1)));", 12);
        stands("near not(-(-1));off 0;worth 0;");
        // What has ended is open no more.
        stands("near -1*-1*-1*-1*-1*-1*-1;off 0;worth 0;");
        stands("near (1)+(1)+(1)+(1)+(1)+(1)+(1);off 0;worth 0;");
        stands("near not 1 and not 1 and not 1 or not 1 or not 1 and not 1;off 0;worth 0;");
        stands("near not not not not not 1 or not not not not not 1;off 0;worth 0;");
        // A not holds till its NOT ends, with the other side of a < too.
        fault("near not not not not not 1 < -1;", 29);
        stands("near not not not not not 1 < 1 - 1;off 0;worth 0;");
        // A - between two TERMS opens nothing.
        stands("near (((((1-1)))));off 0;worth 0;");
        fault("near (((((1--1)))));", 12);
        fault("near (((((-1)))));", 10);
        fault("near (((((not 1)))));", 10);
        fault("near ((((((((((((((((((((((((((((((((((((((((((((((((((((((((", 10);
        // Five may be open again, once those ahead have ended; each part begins with none.
        stands("near (((((1)))))+(((((2)))));off (((((1)))));worth -----1;");
        stands("near -----1*-----1;off -----1<-----1;worth (-(-(1)));");
        stands("near not not not not not 1 and not not not not not 1;off 0;worth 0;");
        stands("near ((not -1)+(not -1))*((not -1)+(not -1));off 0;worth 0;");
        fault("near (not(not -1));off (not(not(1)));worth (not(not(-1)));", 52);
        fault("near (not(not -1));off (not(not(--1)));", 32);
        stands("near not(not(not 1));off 0;worth 0;");
        fault("near not(not(not not 1));", 17);
        // A - ends with its ONE, a not only with its NOT.
        stands("near -1 - -1 - -1 - -1 - -1 - -1;off 0;worth 0;");
        fault("near not 1 + ----- 1;", 17);
        stands("near not 1 + ---- 1;off 0;worth 0;");
        fault("near not not (((1 + (1))));", 20);
        stands("near not 1 or ----- 1;off 0;worth 0;");
        stands("near (not 1) + ----- 1;off 0;worth 0;");
    }

    /** A text may fill THE TAPE, and nothing of an earlier one is read behind its end. */
    private static void promise8Ends() {
        String plain = "near 1;off 2;worth 3;";
        stands(plain + " ".repeat(160 - plain.length()));
        stands(" ".repeat(160 - plain.length()) + plain);
        fault(" ".repeat(160), 160);
        fault(" ".repeat(151) + "near 1234", 160);
        fault(" ".repeat(156) + "near", 160);
        fault("n".repeat(160), 0);
        fault("near " + "1".repeat(155), 5);
        fault("near " + "1+".repeat(77) + "1", 160);
        stands("near " + "1+".repeat(69) + "1;off 0;worth 0;");
        SamePlace x = new SamePlace();
        DUE.is("a FAULT", Due.read(x, "near 12345678901;off 0;worth 0;"), -105);
        DUE.is("digits behind the end", Due.read(x, "near 123"), -108);
        DUE.is("a FAULT", Due.read(x, "near offoffoff;off 0;worth 0;"), -105);
        DUE.is("letters behind the end", Due.read(x, "near"), -104);
        DUE.is("a FAULT", Due.read(x, "near x" + " ".repeat(90)), -105);
        DUE.is("blanks behind the end", Due.read(x, "near  "), -106);
    }

    /** What was read ahead of it, in vain as well, leaves nothing in a TEXT. */
    private static void promise8After() {
        SamePlace x = new SamePlace();
        x.way(0, 0);
        for (int i = 0; i < 3; i++) {
            DUE.is("a long text in vain", Due.read(x, "near " + "1+".repeat(50) + "1;x"), -207);
        }
        DUE.is("no TEXT came", x.count(3), 1);
        DUE.is("one that stands", Due.read(x, "near 7*7+" + "1+".repeat(10) + "1;off 3-5;worth 8;"), 1);
        x.force(1);
        DUE.is("its near", x.asks(0, 0, 0), 60);
        DUE.is("its off", x.asks(1, 0, 0), -2);
        DUE.is("its worth", x.asks(2, 0, 0), 8);
        DUE.is("text() of no bytes", x.text(), -100);
        DUE.is("it is no TEXT", x.count(3), 2);
        DUE.is("THE RULE stays", x.count(5), 1);
        DUE.is("its near stays", x.asks(0, 0, 0), 60);
    }

    private static void promise9() {
        SamePlace x = new SamePlace();
        x.way(0, 0);
        DUE.is("force(-1)", x.force(-1), -2);
        DUE.is("force(1): none such", x.force(1), -2);
        DUE.is("force(0)", x.force(0), 0);
        Due.read(x, "near 1;off 2;worth 3;");
        Due.read(x, "near 4;off 5;worth 6;");
        DUE.is("TEXT 0 is THE RULE yet", x.asks(0, 0, 0), 500);
        DUE.is("force(2)", x.force(2), 0);
        DUE.is("worth by TEXT 2", x.asks(2, 0, 0), 6);
        DUE.is("force(1)", x.force(1), 2);
        DUE.is("worth by TEXT 1", x.asks(2, 0, 0), 3);
        DUE.is("force(3)", x.force(3), -2);
        DUE.is("THE RULE stays", x.count(5), 1);
        DUE.is("force(0)", x.force(0), 1);
        DUE.is("near by TEXT 0", x.asks(0, 0, 0), 500);
    }

    /** What near tells by an E, of WAY 1 of these: two POINTS, NUMBER 3, LONG 700. */
    private static int told(String e, int minute) {
        SamePlace x = new SamePlace();
        x.set(0, 0, 700);
        x.way(0, 0);
        Due.path(x, 0, 3, 0, 600, 100, 50);
        int text = Due.read(x, "near " + e + ";off 0;worth 0;");
        x.force(text);
        return x.asks(0, 1, minute);
    }

    private static void value(String e, int due) {
        DUE.is("near " + e, told(e, 10), due);
    }

    private static void promise11Names() {
        DUE.is("minute", told("minute", 599), 599);
        DUE.is("place in 0", told("place", 0), 600);
        DUE.is("place in 3 (583.500)", told("place", 3), 583);
        DUE.is("place in 600", told("place", 600), 50);
        value("way", 1);
        value("far", 700);
        value("points", 2);
        DUE.is("pace in 0", told("pace", 0), 0);
        DUE.is("pace of a WILD WAY in 0", wildPace(), 0);
        DUE.is("pace, going down", told("pace", 1), 5500);
        DUE.is("pace in 100", told("pace", 100), 5500);
        DUE.is("pace in 101", told("pace", 101), 0);
    }

    /** pace without a sign, at the path's ends and where a WILD one begins anew. */
    private static void promise11OneAhead() {
        SamePlace x = new SamePlace();
        Due.path(x, 5, 3, 0, 10);
        Due.path(x, 0, 0, 599, 0, 600, 600);
        Due.path(x, 4, 9, 0, 0, 600, 600);
        x.force(Due.read(x, "near pace;off 0;worth points*10+way;"));
        DUE.is("WILD in 1", x.asks(0, 0, 1), 1000);
        DUE.is("WILD in 5, back", x.asks(0, 0, 5), 4000);
        DUE.is("in 600, at the bound", x.asks(0, 1, 600), 9999);
        DUE.is("in 599", x.asks(0, 1, 599), 0);
        DUE.is("HALTING in 9", x.asks(0, 2, 9), 0);
        DUE.is("HALTING in 10", x.asks(0, 2, 10), 9999);
        DUE.is("POINTS and number of WAY 1", x.asks(2, 1, 0), 21);
        x.clear(1);
        DUE.is("no POINTS", x.asks(2, 1, 0), 1);
    }

    private static int wildPace() {
        SamePlace x = new SamePlace();
        Due.path(x, 5, 3, 0, 10);
        x.force(Due.read(x, "near pace;off 0;worth 0;"));
        return x.asks(0, 0, 0);
    }

    private static void promise11Values() {
        value("1+2*3", 7);
        value("(1+2)*3", 9);
        value("10-2-3", 5);
        value("10-(2-3)", 11);
        value("2*3*4-1", 23);
        value("-5+9", 4);
        value("- -5", 5);
        value("0-5*-2", 10);
        value("-2*-3", 6);
        value("1<2", 1);
        value("2<2", 0);
        value("2<1", 0);
        value("-1<1", 1);
        value("2=2", 1);
        value("2=3", 0);
        value("7 or 0", 1);
        value("0 or 0", 0);
        value("7", 7);
        value("7 and 5", 1);
        value("7 and 0", 0);
        value("1 and 1", 1);
        value("0 and 1", 0);
        value("0 and 0", 0);
        value("1 and 2 and 3", 1);
        value("1 and 0 and 3", 0);
        value("0 or 0 or 9", 1);
        value("0-1 or 0", 1);
        value("-1 and -1", 1);
        value("not -1", 0);
        value("3 < 3 or 3 = 3", 1);
        value("0 < 0", 0);
        value("0 = 0", 1);
        value("-3 < -2", 1);
        value("-2 < -3", 0);
        value("not 7", 0);
        value("not 0", 1);
        value("not not 7", 1);
        value("not 1 = 0", 1);
        value("(not 1) = 0", 1);
        value("not 3 < 2", 1);
        value("(not 3) < 2", 1);
        value("not 0 < 1", 0);
        value("(not 0) < 1", 0);
        value("not 2 = 0 ", 1);
        value("(not 2) = 5", 0);
        value("not 2 = 5", 1);
        value("1 or 1 and 0", 1);
        value("(1 or 1) and 0", 0);
        value("0 and 0 or 1", 1);
        value("not 0 and 0", 0);
        value("not (0 and 0)", 1);
        value("1 + 1 < 3", 1);
        value("2 = 1 + 1", 1);
        // By 32 bits: 9999 * 9999 * 43 is 4299140043, which is 4172747 in an int.
        value("9999*9999*43-417*9999", 3164);
        value("9999*9999*9999*9999 < 0", (9999 * 9999 * 9999 * 9999) < 0 ? 1 : 0);
    }

    /** An E is an int: behind 2147483647 comes -2147483648. */
    private static void promise11Wrapping() {
        value("256*256*256*256", 0);
        value("256*256*256*256 = 0", 1);
        value("256*256*256*128 < 0", 1);
        value("256*256*256*128", 0);
        value("256*256*256*128-1", 9999);
        value("0 < 256*256*256*128-1", 1);
        value("-(256*256*256*128) = 256*256*256*128", 1);
        value("256*256*256*128-1+1 < 0", 1);
        value("not 256*256*256*256", 1);
        value("256*256*256*256 or 0", 0);
        value("256*256*256*128 and 1", 1);
        value("0-256*256*256*128-1", 9999);
    }

    private static void promise11Bounds() {
        SamePlace x = new SamePlace();
        Due.path(x, 0, 0, 0, 0, 600, 600);
        DUE.is("TEXT 0: near", x.asks(0, 0, 7), 500);
        DUE.is("TEXT 0: off", x.asks(1, 0, 7), 0);
        DUE.is("TEXT 0: worth", x.asks(2, 0, 7), 7);
        DUE.is("TEXT 0: worth, at most", x.asks(2, 0, 100), 99);
        Due.read(x, "near 9999+1;off 60+1;worth 99+1;");
        x.force(1);
        DUE.is("near at most", x.asks(0, 0, 0), 9999);
        DUE.is("off at most", x.asks(1, 0, 0), 60);
        DUE.is("worth at most", x.asks(2, 0, 0), 99);
        Due.read(x, "near 9998;off -60;worth 98;");
        x.force(2);
        DUE.is("near within", x.asks(0, 0, 0), 9998);
        DUE.is("off within", x.asks(1, 0, 0), -60);
        DUE.is("worth within", x.asks(2, 0, 0), 98);
    }

    private static void promise11Refusals() {
        SamePlace x = new SamePlace();
        DUE.is("no WAY", x.asks(0, 0, 0), -1000);
        x.way(0, 0);
        DUE.is("asks(-1, 0, 0)", x.asks(-1, 0, 0), -1000);
        DUE.is("asks(3, 0, 0)", x.asks(3, 0, 0), -1000);
        DUE.is("asks(0, -1, 0)", x.asks(0, -1, 0), -1000);
        DUE.is("asks(0, 1, 0)", x.asks(0, 1, 0), -1000);
        DUE.is("asks(0, 0, -1)", x.asks(0, 0, -1), -1000);
        DUE.is("asks(0, 0, 601)", x.asks(0, 0, 601), -1000);
        DUE.is("asks(0, 0, 600)", x.asks(0, 0, 600), 500);
        Due.read(x, "near -1;off -61;worth -1;");
        x.force(1);
        DUE.is("near at least", x.asks(0, 0, 0), 0);
        DUE.is("off at least", x.asks(1, 0, 0), -60);
        DUE.is("worth at least", x.asks(2, 0, 0), 0);
    }

    private TextsTest() {
    }
}
