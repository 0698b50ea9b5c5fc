import java.util.Random;

/** All promises: runs of calls, drawn by fixed seeds, whose answers are those of the Model. */
final class ModelTest {
    private static final Due DUE = new Due("ModelTest");
    private static final int CALLS = 512;
    private static final int[] ODD = {-1, 0, 1, 2, 9, 10, 40, 41, 599, 600, 601, 999, 1000,
        Integer.MAX_VALUE, Integer.MIN_VALUE, -2};

    private final Random random;
    private final SamePlace x = new SamePlace();
    private final Model y = new Model();
    private final long seed;
    private int calls;

    private ModelTest(long seed) {
        this.seed = seed;
        this.random = new Random(seed);
    }

    public static void main(String[] args) {
        int runs = args.length > 0 ? Integer.parseInt(args[0]) : 60;
        long first = args.length > 1 ? Long.parseLong(args[1]) : 0;
        for (int i = 0; i < runs; i++) {
            new ModelTest(first + i).run();
        }
        for (int i = 0; i < 10 * runs; i++) {
            new ModelTest(first + i).runTexts();
        }
        DUE.finish();
    }

    private void run() {
        int start = pick(7);
        for (int i = 0; i < start; i++) {
            grow();
        }
        // A turn makes less than 40 calls, but for write, which looks itself at how many are left.
        while (calls < CALLS - 40) {
            int what = pick(100);
            if (what < 22) {
                grow();
            } else if (what < 25) {
                write();
            } else if (what < 60) {
                askWays();
            } else if (what < 80) {
                askSheets();
            } else {
                change();
            }
        }
    }

    /** Texts of TOKENS that mostly may follow one another, so that a FAULT comes late or not at all. */
    private void runTexts() {
        due("set(0, 0, 700)", x.set(0, 0, 700), y.set(0, 0, 700));
        due("way(0, 0)", x.way(0, 0), y.way(0, 0));
        due("way(5, 3)", x.way(5, 3), y.way(5, 3));
        point(1, 0, pick(700));
        point(1, 5 + pick(20), pick(700));
        while (calls < CALLS - 170) {
            String s = tokens();
            for (int i = 0; i < s.length() && i < 160; i++) {
                due("feed", x.feed(s.charAt(i)), y.feed(s.charAt(i)));
            }
            int text = x.text();
            due("text() of \"" + s + '"', text, y.text());
            if (text > 0) {
                due("force(" + text + ")", x.force(text), y.force(text));
            }
            for (int part = 0; part < 3; part++) {
                int m = pick(40);
                due("asks(" + part + ", 1, " + m + ") by " + s, x.asks(part, 1, m), y.asks(part, 1, m));
            }
        }
    }

    private String tokens() {
        String[] operands = {"minute", "place", "way", "pace", "far", "points", "0", "1", "2", "0073", "9999"};
        String[] joints = {"+", "-", "*", "<", "=", " or ", " and ", " - ", "\n*"};
        StringBuilder s = new StringBuilder();
        for (String key : new String[] {"near ", "off ", " worth "}) {
            s.append(key);
            int open = 0;
            for (int n = 1 + pick(4); n > 0; n--) {
                boolean fresh = true;
                for (int k = pick(3); k > 0; k--) {
                    int what = pick(fresh ? 3 : 2);
                    s.append(what == 0 ? "-" : what == 1 ? "(" : "not ");
                    open += what == 1 ? 1 : 0;
                    fresh = what != 0;
                }
                s.append(operands[pick(operands.length)]);
                while (open > 0 && pick(2) == 0) {
                    s.append(")");
                    open--;
                }
                if (n > 1) {
                    s.append(joints[pick(joints.length)]);
                }
            }
            for (int i = pick(30) == 0 ? 1 : 0; i < open; i++) {
                s.append(")");
            }
            s.append(";");
        }
        return s.toString();
    }

    private int pick(int n) {
        return random.nextInt(n);
    }

    /** Mostly a number below n, now and then an odd one. */
    private int some(int n) {
        return pick(14) == 0 ? ODD[pick(ODD.length)] : pick(n);
    }

    private int someWay() {
        return pick(20) == 0 ? some(8) : pick(Math.max(1, y.ways.size()));
    }

    private int someMinute() {
        return pick(6) == 0 ? ODD[pick(ODD.length)] : pick(601);
    }

    private int somePlace() {
        int kind = pick(8);
        return kind == 0 ? ODD[pick(ODD.length)] : kind == 1 ? y.far : kind < 5 ? pick(y.far + 1) : pick(11);
    }

    private void due(String call, long got, long want) {
        calls++;
        DUE.is("seed " + seed + ", call " + calls + ": " + call, got, want);
    }

    private void point(int a, int b, int c) {
        due("point(" + a + ", " + b + ", " + c + ")", x.point(a, b, c), y.point(a, b, c));
    }

    private void grow() {
        int a = some(6);
        int b = some(10);
        if (pick(3) == 0) {
            due("way(" + a + ", " + b + ")", x.way(a, b), y.way(a, b));
        }
        int way = someWay();
        int last = way >= 0 && way < y.ways.size() && !y.ways.get(way).points.isEmpty()
                ? y.ways.get(way).points.get(y.ways.get(way).points.size() - 1)[0] : -1;
        int n = pick(4);
        for (int i = 0; i < n; i++) {
            int minute = pick(10) == 0 ? someMinute() : last + 1 + pick(pick(2) == 0 ? 3 : 150);
            point(way, minute, somePlace());
            last = Math.max(last, minute);
        }
    }

    private void change() {
        int a = someWay();
        int b = some(10);
        switch (pick(9)) {
            case 0:
                if (pick(2) == 0) {
                    due("clear(" + a + ")", x.clear(a), y.clear(a));
                }
                break;
            case 1:
                int v = pick(3) == 0 ? some(1010) : 10 + pick(990);
                due("set(0, " + a + ", " + v + ")", x.set(0, a, v), y.set(0, a, v));
                break;
            case 2:
            case 3:
                due("set(1, " + a + ", " + b + ")", x.set(1, a, b), y.set(1, a, b));
                break;
            case 4:
                int what = some(3);
                due("set(" + what + ", " + a + ", " + b + ")", x.set(what, a, b), y.set(what, a, b));
                break;
            case 5:
                due("image()", x.image(), y.image());
                break;
            case 6:
                if (pick(2) == 0) {
                    due("back()", x.back(), y.back());
                }
                break;
            case 7:
                int text = some(6);
                due("force(" + text + ")", x.force(text), y.force(text));
                break;
            default:
                int k = some(7);
                due("count(" + k + ")", x.count(k), y.count(k));
                int t = some(22);
                due("told(" + a + ", " + t + ")", x.told(a, t), y.told(a, t));
                int kind = some(6);
                due("taken(" + a + ", " + kind + ")", x.taken(a, kind), y.taken(a, kind));
        }
    }

    private String e(int depth) {
        String[] names = {"minute", "place", "way", "pace", "far", "points"};
        int what = pick(depth > 3 ? 2 : 9);
        switch (what) {
            case 0: return names[pick(6)];
            case 1: return Integer.toString(pick(pick(3) == 0 ? 10000 : 70));
            case 2: return "-" + e(depth + 2);
            case 3: return "(" + e(depth + 1) + ")";
            case 4: return (pick(2) == 0 ? "not " : "(not ") + e(depth + 1) + (pick(9) == 0 ? "" : ")");
            case 5: return e(depth + 1) + (pick(2) == 0 ? "<" : " = ") + e(depth + 1);
            case 6: return e(depth + 1) + (pick(2) == 0 ? " or " : " and ") + e(depth + 1);
            default: return e(depth + 1) + "+-*\n".charAt(pick(15) == 0 ? 3 : pick(3)) + e(depth + 1);
        }
    }

    /** A text that may stand: brackets that e left open or closed too often are mended by chance alone. */
    private String text() {
        StringBuilder s = new StringBuilder();
        s.append("near ").append(e(pick(3))).append(";off ").append(e(1 + pick(3)));
        s.append(" ; worth ").append(e(pick(3))).append(";");
        for (int hurts = pick(4) - 1; hurts > 0 && s.length() > 0; hurts--) {
            String letters = "()-+*<=;0a \nX" + (char) 200;
            int place = pick(s.length());
            char letter = letters.charAt(pick(letters.length()));
            if (pick(2) == 0) {
                s.insert(place, letter);
            } else if (pick(2) == 0) {
                s.setCharAt(place, letter);
            } else {
                s.setLength(place);
            }
        }
        return s.toString();
    }

    private void write() {
        String s = text();
        if (s.length() > CALLS - 40 - calls) {
            return;
        }
        for (int i = 0; i < s.length(); i++) {
            due("feed", x.feed(s.charAt(i)), y.feed(s.charAt(i)));
        }
        int odd = some(256);
        if (pick(30) == 0) {
            due("feed(" + odd + ")", x.feed(odd), y.feed(odd));
        }
        int got = x.text();
        due("text() of \"" + s + '"', got, y.text());
        if (got > 0) {
            due("force(" + got + ")", x.force(got), y.force(got));
        }
    }

    private void askWays() {
        int a = someWay();
        int b = someWay();
        int m = someMinute();
        int n = someMinute();
        int what = some(4);
        int t = pick(5) == 0 ? some(310) : 1 + pick(300);
        switch (pick(13)) {
            case 0:
                due("at(" + a + ", " + m + ")", x.at(a, m), y.at(a, m));
                break;
            case 1:
            case 2:
                due("asks(" + what + ", " + a + ", " + m + ")", x.asks(what, a, m), y.asks(what, a, m));
                break;
            case 3:
                due("length(" + a + ", " + m + ", " + n + ")", x.length(a, m, n), y.length(a, m, n));
                break;
            case 4:
                due("mean(" + a + ", " + t + ")", x.mean(a, t), y.mean(a, t));
                break;
            case 5:
                due("half(" + a + ", " + what + ")", x.half(a, what), y.half(a, what));
                break;
            case 6:
            case 7:
                due("meet(" + a + ", " + b + ", " + what + ")", x.meet(a, b, what), y.meet(a, b, what));
                break;
            case 8:
                int part = some(2);
                due("when(" + a + ", " + b + ", " + part + ")", x.when(a, b, part), y.when(a, b, part));
                break;
            case 9:
                due("sure(" + a + ", " + b + ")", x.sure(a, b), y.sure(a, b));
                break;
            case 10:
                due("apart(" + a + ", " + b + ", " + what + ")", x.apart(a, b, what), y.apart(a, b, what));
                break;
            case 11:
                int of = some(2);
                due("posts(" + of + ")", x.posts(of), y.posts(of));
                break;
            default:
                askDrawn(a);
        }
    }

    private void askDrawn(int way) {
        int seedOf = pick(4) == 0 ? ODD[pick(ODD.length)] : random.nextInt();
        int n = 1 + some(9) % 10;
        int many = some(22);
        int part = some(2);
        due("drawn(" + seedOf + ", " + n + ", " + way + ")", x.drawn(seedOf, n, way), y.drawn(seedOf, n, way));
        due("chance(" + seedOf + ", " + many + ", " + way + ", " + part + ")",
                x.chance(seedOf, many, way, part), y.chance(seedOf, many, way, part));
    }

    private void askSheets() {
        int s = pick(20) == 0 ? some(5) : pick(4);
        int o = pick(20) == 0 ? some(5) : pick(4);
        int sort = pick(10) == 0 ? some(4) - 1 : pick(3);
        switch (pick(10)) {
            case 0:
                int size = pick(6) == 0 ? some(42) : 3 * pick(8);
                due("sheet(" + s + ", " + sort + ", " + size + ")", x.sheet(s, sort, size), y.sheet(s, sort, size));
                break;
            case 1:
                int from = some(20);
                int to = some(20);
                int n = some(20);
                due("copy(" + s + ", " + from + ", " + o + ", " + to + ", " + n + ")",
                        x.copy(s, from, o, to, n), y.copy(s, from, o, to, n));
                break;
            case 2:
                int start = some(6);
                int rows = some(6);
                due("points(" + s + ", " + sort + ", " + start + ", " + rows + ")",
                        x.points(s, sort, start, rows), y.points(s, sort, start, rows));
                break;
            case 3:
                due("fits(" + s + ")", x.fits(s), y.fits(s));
                break;
            case 4:
                int way = someWay();
                int what = some(2);
                due("wrong(" + s + ", " + way + ", " + what + ")", x.wrong(s, way, what), y.wrong(s, way, what));
                break;
            case 5:
                due("beads(" + s + ")", x.beads(s), y.beads(s));
                due("heat(" + s + ")", x.heat(s), y.heat(s));
                break;
            case 6:
                layNotes(s);
                break;
            case 7:
                layRing(s);
                break;
            default:
                int i = some(20);
                int v = pick(2) == 0 ? pick(70000) - 35000 : some(601);
                due("cell(" + s + ", " + i + ", " + v + ")", x.cell(s, i, v), y.cell(s, i, v));
        }
    }

    private void cell(int s, int i, int v) {
        due("cell(" + s + ", " + i + ", " + v + ")", x.cell(s, i, v), y.cell(s, i, v));
    }

    /** NOTES near a WAY, or rows that may be POINTS. */
    private void layNotes(int s) {
        int rows = 1 + pick(4);
        due("sheet(" + s + ", 2, " + 3 * rows + ")", x.sheet(s, 2, 3 * rows), y.sheet(s, 2, 3 * rows));
        boolean notes = pick(2) == 0;
        for (int r = 0; r < rows; r++) {
            int m = pick(601);
            int way = someWay();
            int place = y.at(way, Math.min(600, m + pick(60))) / 1000;
            cell(s, 3 * r, notes ? m : way);
            cell(s, 3 * r + 1, notes ? place : m);
            cell(s, 3 * r + 2, notes ? pick(pick(2) == 0 ? 2000 : 200000) : place);
        }
        due("fits(" + s + ")", x.fits(s), y.fits(s));
        int way = someWay();
        due("wrong(" + s + ", " + way + ", 0)", x.wrong(s, way, 0), y.wrong(s, way, 0));
        due("wrong(" + s + ", " + way + ", 1)", x.wrong(s, way, 1), y.wrong(s, way, 1));
        due("points(" + s + ", 2, 0, " + rows + ")", x.points(s, 2, 0, rows), y.points(s, 2, 0, rows));
    }

    private void layRing(int s) {
        int sort = pick(3);
        int size = 2 * pick(9);
        due("sheet(" + s + ", " + sort + ", " + size + ")", x.sheet(s, sort, size), y.sheet(s, sort, size));
        int spread = pick(3);
        for (int i = 0; i < size; i++) {
            cell(s, i, spread == 0 ? pick(3) - 1 : spread == 1 ? i * (pick(9) - 2) : random.nextInt());
        }
        due("beads(" + s + ")", x.beads(s), y.beads(s));
        due("heat(" + s + ")", x.heat(s), y.heat(s));
    }
}
