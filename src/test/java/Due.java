/** Counts answers that are not the ones due, and tells each of them. */
final class Due {
    private final String name;
    private int asked;
    private int wrong;

    Due(String name) {
        this.name = name;
    }

    void is(String call, long got, long want) {
        asked++;
        if (got != want) {
            wrong++;
            System.out.println(name + ": " + call + " answered " + got + ", due is " + want);
        }
    }

    void holds(String what, boolean is) {
        is(what, is ? 1 : 0, 1);
    }

    /** Ends the program with exit code 1, if an answer was wrong. */
    void finish() {
        System.out.println(name + ": " + asked + " answers, " + wrong + " wrong");
        if (wrong != 0 || asked == 0) {
            System.exit(1);
        }
    }

    /** Feeds all signs of a text. */
    static void feed(SamePlace x, String text) {
        for (int i = 0; i < text.length(); i++) {
            x.feed(text.charAt(i));
        }
    }

    /** What text() answers to a text. */
    static int read(SamePlace x, String text) {
        feed(x, text);
        return x.text();
    }

    /** Makes a SHEET of a sort with these numbers. */
    static void lay(SamePlace x, int sheet, int sort, int... numbers) {
        x.sheet(sheet, sort, numbers.length);
        for (int i = 0; i < numbers.length; i++) {
            x.cell(sheet, i, numbers[i]);
        }
    }

    /** A new WAY by pairs of a MINUTE and a place: its number. */
    static int path(SamePlace x, int kind, int number, int... pairs) {
        int way = x.way(kind, number);
        for (int i = 0; i + 1 < pairs.length; i += 2) {
            x.point(way, pairs[i], pairs[i + 1]);
        }
        return way;
    }
}
