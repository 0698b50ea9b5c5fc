import java.util.ArrayList;
import java.util.Arrays;
import java.util.List;
import java.util.TreeSet;
import java.util.function.IntUnaryOperator;

/**
 * The document once more, by other means than SamePlace: KINDS as classes, SHEETS as the host's own arrays whose
 * exceptions are the refusals, FAULTS by a table of what may follow, values by splitting a text where it is loosest.
 */
final class Model {
    static final int NONE = -1, BAD = -2, STATE = -3, FULL = -4;
    static final long NO = -4611686018427387904L;

    static class Way {
        int number;
        final List<int[]> points = new ArrayList<>();

        int told(int m) {
            if (points.isEmpty()) {
                return 0;
            }
            int[] first = points.get(0);
            int[] last = points.get(points.size() - 1);
            if (m <= first[0]) {
                return 1000 * first[1];
            }
            if (m >= last[0]) {
                return 1000 * last[1];
            }
            int k = points.size() - 1;
            while (points.get(k)[0] > m) {
                k--;
            }
            int[] a = points.get(k);
            int[] b = points.get(k + 1);
            return (int) (1000L * a[1] + 1000L * (b[1] - a[1]) * (m - a[0]) / (b[0] - a[0]));
        }

        int free(int m, int far) {
            return told(m);
        }

        final int at(int m, int far) {
            int p = free(m, far);
            return p < 0 ? 0 : p > 1000 * far ? 1000 * far : p;
        }
    }

    static class Late extends Way {
        @Override int free(int m, int far) {
            int t = m - 10 * number;
            return told(t < 0 ? 0 : t);
        }
    }

    static class Turned extends Way {
        @Override int free(int m, int far) {
            return 1000 * far - told(m);
        }
    }

    static final class Slow extends Late {
        @Override int free(int m, int far) {
            return super.free(m, far) / 2;
        }
    }

    static final class Halting extends Turned {
        @Override int free(int m, int far) {
            return super.free(m / (number + 1) * (number + 1), far);
        }
    }

    static final class Wild extends Late {
        @Override int free(int m, int far) {
            return super.free(m, far) + 1000 * (m % (number + 2));
        }
    }

    private static final List<Class<? extends Way>> KINDS =
            List.of(Way.class, Late.class, Turned.class, Slow.class, Halting.class, Wild.class);

    private static Way made(int kind) {
        switch (kind) {
            case 0: return new Way();
            case 1: return new Late();
            case 2: return new Turned();
            case 3: return new Slow();
            case 4: return new Halting();
            default: return new Wild();
        }
    }

    private static Way twin(Way w) {
        Way t = made(KINDS.indexOf(w.getClass()));
        t.number = w.number;
        for (int[] p : w.points) {
            t.points.add(p.clone());
        }
        return t;
    }

    int far = 600;
    List<Way> ways = new ArrayList<>();
    int rule;
    private int keptFar;
    private int keptRule;
    private List<Way> kept;
    private StringBuilder tape = new StringBuilder();
    private final List<List<List<String>>> texts = new ArrayList<>();
    private final Object[] sheets = new Object[4];

    Model() {
        texts.add(List.of(List.of("500"), List.of("0"), List.of("place")));
    }

    private boolean no(int way) {
        return way < 0 || way >= ways.size();
    }

    private static boolean noMinute(int m) {
        return m < 0 || m > 600;
    }

    int set(int what, int of, int v) {
        int was;
        if (what == 0) {
            if (v < 10 || v > 999) {
                return BAD;
            }
            if (ways.stream().flatMap(w -> w.points.stream()).anyMatch(p -> p[1] > v)) {
                return STATE;
            }
            was = far;
            far = v;
            return was;
        }
        if (what != 1 || no(of) || v < 0 || v > 9) {
            return BAD;
        }
        was = ways.get(of).number;
        ways.get(of).number = v;
        return was;
    }

    int way(int kind, int number) {
        if (kind < 0 || kind > 5 || number < 0 || number > 9) {
            return BAD;
        }
        if (ways.size() == 6) {
            return FULL;
        }
        Way w = made(kind);
        w.number = number;
        ways.add(w);
        return ways.size() - 1;
    }

    int point(int way, int minute, int place) {
        if (no(way) || noMinute(minute)) {
            return BAD;
        }
        List<int[]> points = ways.get(way).points;
        if (!points.isEmpty() && minute <= points.get(points.size() - 1)[0] || place < 0 || place > far) {
            return BAD;
        }
        if (points.size() == 8) {
            return FULL;
        }
        points.add(new int[] {minute, place});
        return points.size();
    }

    int clear(int way) {
        if (no(way)) {
            return BAD;
        }
        int had = ways.get(way).points.size();
        ways.get(way).points.clear();
        return had;
    }

    int told(int way, int what) {
        if (no(way)) {
            return BAD;
        }
        Way w = ways.get(way);
        List<Integer> all = new ArrayList<>(List.of(KINDS.indexOf(w.getClass()), w.number, w.points.size()));
        for (int[] p : w.points) {
            all.add(p[0]);
            all.add(p[1]);
        }
        return what < 0 || what >= all.size() ? BAD : all.get(what);
    }

    int feed(int letter) {
        if (letter < 0 || letter > 255) {
            return BAD;
        }
        if (tape.length() == 160) {
            return FULL;
        }
        tape.append((char) letter);
        return tape.length();
    }

    int text() {
        if (texts.size() == 6) {
            return FULL;
        }
        String s = tape.toString();
        tape = new StringBuilder();
        List<List<String>> parts = new ArrayList<>();
        int fault = fault(s, parts);
        if (fault >= 0) {
            return -100 - fault;
        }
        texts.add(parts);
        return texts.size() - 1;
    }

    private static final List<String> NAMES = List.of("minute", "place", "way", "pace", "far", "points");
    private static final List<String> KEYS = List.of("near", "off", "worth", "or", "and", "not");

    /** The place of the FAULT, or -1 with the TOKENS of each part. */
    private static int fault(String s, List<List<String>> parts) {
        int i = 0;
        int part = 0;
        // What is awaited: K the part's KEY, O an operand, A what follows one, E the end.
        char awaited = 'K';
        boolean mayNot = false;
        boolean compared = false;
        List<Character> open = new ArrayList<>();
        List<Boolean> outer = new ArrayList<>();
        while (true) {
            while (i < s.length() && (s.charAt(i) == ' ' || s.charAt(i) == '\n')) {
                i++;
            }
            if (i == s.length()) {
                return awaited == 'E' ? -1 : i;
            }
            int from = i;
            char c = s.charAt(i);
            if (c >= 'a' && c <= 'z') {
                while (i < s.length() && s.charAt(i) >= 'a' && s.charAt(i) <= 'z') {
                    i++;
                }
            } else if (c >= '0' && c <= '9') {
                while (i < s.length() && s.charAt(i) >= '0' && s.charAt(i) <= '9') {
                    i++;
                }
                if (i - from > 4) {
                    return from;
                }
            } else if ("();+-*<=".indexOf(c) >= 0) {
                i++;
            } else {
                return from;
            }
            String t = s.substring(from, i);
            if (Character.isLetter(t.charAt(0)) && !NAMES.contains(t) && !KEYS.contains(t)) {
                return from;
            }
            if (awaited == 'E') {
                return from;
            }
            if (awaited == 'K') {
                if (!t.equals(KEYS.get(part))) {
                    return from;
                }
                parts.add(new ArrayList<>());
                awaited = 'O';
                mayNot = true;
                compared = false;
                continue;
            }
            boolean isOperand = Character.isDigit(t.charAt(0)) || NAMES.contains(t);
            if (awaited == 'O') {
                if (isOperand) {
                    awaited = 'A';
                    drop(open, '-');
                } else if (t.equals("(") || t.equals("-") || t.equals("not") && mayNot) {
                    if (open.size() == 5) {
                        return from;
                    }
                    open.add(t.charAt(0));
                    mayNot = !t.equals("-");
                    if (t.equals("(")) {
                        outer.add(compared);
                        compared = false;
                    }
                } else {
                    return from;
                }
            } else {
                switch (t) {
                    case "*": case "+": case "-":
                        awaited = 'O';
                        mayNot = false;
                        break;
                    case "<": case "=":
                        if (compared) {
                            return from;
                        }
                        compared = true;
                        awaited = 'O';
                        mayNot = false;
                        break;
                    case "and": case "or":
                        drop(open, 'n');
                        compared = false;
                        awaited = 'O';
                        mayNot = true;
                        break;
                    case ")":
                        drop(open, 'n');
                        if (open.isEmpty()) {
                            return from;
                        }
                        open.remove(open.size() - 1);
                        compared = outer.remove(outer.size() - 1);
                        drop(open, '-');
                        break;
                    case ";":
                        drop(open, 'n');
                        if (!open.isEmpty()) {
                            return from;
                        }
                        part++;
                        awaited = part == 3 ? 'E' : 'K';
                        break;
                    default:
                        return from;
                }
            }
            if (awaited == 'O' || awaited == 'A') {
                parts.get(part).add(t);
            }
        }
    }

    private static void drop(List<Character> open, char what) {
        while (!open.isEmpty() && open.get(open.size() - 1) == what) {
            open.remove(open.size() - 1);
        }
    }

    /** Where the last of some TOKENS stands that joins two sides outside all brackets; -1. */
    private static int joint(List<String> e, String... signs) {
        int depth = 0;
        for (int i = e.size() - 1; i > 0; i--) {
            String t = e.get(i);
            depth += t.equals(")") ? 1 : t.equals("(") ? -1 : 0;
            String ahead = e.get(i - 1);
            boolean joins = Character.isDigit(ahead.charAt(0)) || NAMES.contains(ahead) || ahead.equals(")");
            if (depth == 0 && joins && Arrays.asList(signs).contains(t)) {
                return i;
            }
        }
        return -1;
    }

    private static int value(List<String> e, int[] names) {
        String[][] levels = {{"or"}, {"and"}, {"not"}, {"<", "="}, {"+", "-"}, {"*"}};
        for (String[] level : levels) {
            if (level[0].equals("not")) {
                if (e.get(0).equals("not")) {
                    return value(e.subList(1, e.size()), names) == 0 ? 1 : 0;
                }
                continue;
            }
            int i = joint(e, level);
            if (i > 0) {
                int a = value(e.subList(0, i), names);
                int b = value(e.subList(i + 1, e.size()), names);
                switch (e.get(i)) {
                    case "or": return a != 0 | b != 0 ? 1 : 0;
                    case "and": return a != 0 & b != 0 ? 1 : 0;
                    case "<": return a < b ? 1 : 0;
                    case "=": return a == b ? 1 : 0;
                    case "+": return a + b;
                    case "-": return a - b;
                    default: return a * b;
                }
            }
        }
        String t = e.get(0);
        if (t.equals("-")) {
            return -value(e.subList(1, e.size()), names);
        }
        if (t.equals("(")) {
            return value(e.subList(1, e.size() - 1), names);
        }
        return Character.isDigit(t.charAt(0)) ? Integer.parseInt(t) : names[NAMES.indexOf(t)];
    }

    int force(int text) {
        if (text < 0 || text >= texts.size()) {
            return BAD;
        }
        int was = rule;
        rule = text;
        return was;
    }

    int at(int way, int minute) {
        return no(way) || noMinute(minute) ? BAD : ways.get(way).at(minute, far);
    }

    private int pace(Way w, int m) {
        return m == 0 ? 0 : Math.abs(w.at(m, far) - w.at(m - 1, far));
    }

    int asks(int part, int way, int minute) {
        if (part < 0 || part > 2 || no(way) || noMinute(minute)) {
            return -1000;
        }
        Way w = ways.get(way);
        int[] names = {minute, w.at(minute, far) / 1000, way, pace(w, minute), far, w.points.size()};
        int v = value(texts.get(rule).get(part), names);
        int least = part == 1 ? -60 : 0;
        int most = part == 0 ? 9999 : part == 1 ? 60 : 99;
        return v < least ? least : v > most ? most : v;
    }

    int length(int way, int from, int to) {
        if (no(way) || noMinute(from) || noMinute(to) || to < from) {
            return BAD;
        }
        int all = 0;
        for (int m = from + 1; m <= to; m++) {
            all += pace(ways.get(way), m);
        }
        return all;
    }

    int mean(int way, int t) {
        if (no(way) || t < 1 || t > 300) {
            return BAD;
        }
        long whole = length(way, 0, 600);
        int[] signs = new int[601 - t];
        for (int s = 0; s <= 600 - t; s++) {
            signs[s] = Long.signum(600L * length(way, s, s + t) - t * whole);
        }
        for (int s = 0; s <= 600 - t; s++) {
            if (signs[s] == 0 || s < 600 - t && signs[s] * signs[s + 1] < 0) {
                return s;
            }
        }
        return NONE;
    }

    int half(int way, int what) {
        if (no(way) || what < 0 || what > 2) {
            return BAD;
        }
        if (what == 0) {
            int m = 0;
            while (2L * length(way, 0, m) < length(way, 0, 600)) {
                m++;
            }
            return m;
        }
        int best = 600;
        for (int m = 599; m >= 0; m--) {
            if (asks(2, way, m) >= asks(2, way, best)) {
                best = m;
            }
        }
        return what == 1 ? best : asks(2, way, best);
    }

    private boolean noTwo(int one, int other) {
        return no(one) || no(other) || one == other;
    }

    /** The MINUTES in which two MEET, each told as where it is in a MINUTE. */
    private static TreeSet<Integer> meetings(IntUnaryOperator one, IntUnaryOperator other) {
        TreeSet<Integer> in = new TreeSet<>();
        for (int m = 0; m <= 600; m++) {
            int d = Integer.signum(one.applyAsInt(m) - other.applyAsInt(m));
            int e = m == 600 ? 0 : Integer.signum(one.applyAsInt(m + 1) - other.applyAsInt(m + 1));
            if (d == 0 || d * e < 0) {
                in.add(m);
            }
        }
        return in;
    }

    private IntUnaryOperator row(Way w, int later) {
        int[] row = new int[601];
        for (int m = 0; m <= 600; m++) {
            row[m] = w.at(m < later ? 0 : m - later, far);
        }
        return m -> row[m];
    }

    int meet(int one, int other, int what) {
        if (noTwo(one, other) || what < 0 || what > 3) {
            return BAD;
        }
        TreeSet<Integer> in = meetings(row(ways.get(one), 0), row(ways.get(other), 0));
        if (what == 0 || what == 3) {
            return what == 0 ? in.size() : in.size() & 1;
        }
        return in.isEmpty() ? NONE : what == 1 ? in.first() : in.last();
    }

    long when(int one, int other, int part) {
        if (noTwo(one, other) || part < 0 || part > 1) {
            return NO;
        }
        int m = meet(one, other, 1);
        if (m < 0) {
            return NO;
        }
        long x = Math.abs(at(one, m) - at(other, m));
        long y = m == 600 || x == 0 ? 1 : Math.abs(at(one, m + 1) - at(other, m + 1));
        return fraction(m * (x + y) + x, x + y, part);
    }

    private static long fraction(long above, long below, int part) {
        long g = java.math.BigInteger.valueOf(above).gcd(java.math.BigInteger.valueOf(below)).longValue();
        return (part == 0 ? above : below) / g;
    }

    int sure(int one, int other) {
        if (noTwo(one, other)) {
            return BAD;
        }
        for (int n = 0; n <= 120; n++) {
            if (meetings(row(ways.get(one), n), row(ways.get(other), 0)).isEmpty()) {
                return n - 1;
            }
        }
        return 120;
    }

    int apart(int one, int other, int what) {
        if (noTwo(one, other) || what < 0 || what > 2) {
            return BAD;
        }
        int most = -1;
        int minute = 0;
        int near = 0;
        for (int m = 0; m <= 600; m++) {
            int d = Math.abs(at(one, m) - at(other, m));
            if (d > most) {
                most = d;
                minute = m;
            }
            near += d <= asks(0, one, m) ? 1 : 0;
        }
        return what == 0 ? most : what == 1 ? minute : near;
    }

    private long[] numbers(int sheet) {
        Object s = sheets[sheet];
        if (s instanceof byte[] b) {
            long[] r = new long[b.length];
            Arrays.setAll(r, i -> b[i]);
            return r;
        }
        if (s instanceof short[] h) {
            long[] r = new long[h.length];
            Arrays.setAll(r, i -> h[i]);
            return r;
        }
        int[] n = (int[]) s;
        return Arrays.stream(n).asLongStream().toArray();
    }

    private static boolean noSheet(int sheet) {
        return sheet < 0 || sheet > 3;
    }

    private static boolean noNotes(long[] rows) {
        if (rows.length % 3 != 0) {
            return true;
        }
        for (int i = 0; i < rows.length; i += 3) {
            if (rows[i] < 0 || rows[i] > 600) {
                return true;
            }
        }
        return false;
    }

    private boolean fits(long[] rows, int way, IntUnaryOperator off) {
        boolean all = true;
        for (int i = 0; i < rows.length; i += 3) {
            int m = (int) rows[i] + off.applyAsInt((int) rows[i]);
            int p = at(way, Math.max(0, Math.min(600, m)));
            all &= Math.abs(1000 * rows[i + 1] - p) <= rows[i + 2];
        }
        return all;
    }

    int fits(int sheet) {
        if (noSheet(sheet)) {
            return BAD;
        }
        if (sheets[sheet] == null) {
            return -11;
        }
        long[] rows = numbers(sheet);
        if (noNotes(rows)) {
            return BAD;
        }
        int bits = 0;
        for (int w = ways.size() - 1; w >= 0; w--) {
            int way = w;
            bits = 2 * bits + (fits(rows, way, m -> asks(1, way, m)) ? 1 : 0);
        }
        return bits;
    }

    int wrong(int sheet, int way, int what) {
        if (noSheet(sheet) || no(way) || what < 0 || what > 1 || sheets[sheet] == null || noNotes(numbers(sheet))) {
            return -1000;
        }
        int many = 0;
        int nearest = 99;
        for (int c = -60; c <= 60; c++) {
            int off = c;
            if (fits(numbers(sheet), way, m -> off)) {
                many++;
                nearest = Math.abs(c) < Math.abs(nearest) ? c : nearest;
            }
        }
        return what == 0 ? many : nearest;
    }

    int posts(int what) {
        if (what < 0 || what > 1) {
            return BAD;
        }
        for (int many = 0; many <= 11; many++) {
            for (int set = 0; set < 2048; set++) {
                if (Integer.bitCount(set) == many && tells(set)) {
                    return what == 0 ? set : many;
                }
            }
        }
        return NONE;
    }

    private boolean tells(int set) {
        TreeSet<String> seen = new TreeSet<>();
        for (int w = 0; w < ways.size(); w++) {
            StringBuilder places = new StringBuilder();
            for (int i = 0; i < 11; i++) {
                if ((set >> i & 1) == 1) {
                    places.append(at(w, 60 * i)).append(' ');
                }
            }
            seen.add(places.toString());
        }
        return seen.size() == ways.size();
    }

    int beads(int sheet) {
        if (noSheet(sheet)) {
            return BAD;
        }
        if (sheets[sheet] == null) {
            return -11;
        }
        long[] ring = numbers(sheet);
        int n = ring.length;
        if (n % 2 == 1) {
            return BAD;
        }
        for (int i = 0; i < n; i++) {
            int all = 0;
            int here = 0;
            for (int k = 0; k < n; k++) {
                if (ring[(i + k) % n] != 0) {
                    all++;
                    here += k < n / 2 ? 1 : 0;
                }
            }
            if (here == all / 2) {
                return i;
            }
        }
        return NONE;
    }

    int heat(int sheet) {
        if (noSheet(sheet)) {
            return BAD;
        }
        if (sheets[sheet] == null) {
            return -11;
        }
        long[] ring = numbers(sheet);
        int n = ring.length;
        if (n % 2 == 1 || n == 0) {
            return BAD;
        }
        int i = 0;
        while (true) {
            long w = ring[i % n] - ring[(i + n / 2) % n];
            long v = ring[(i + 1) % n] - ring[(i + 1 + n / 2) % n];
            if (Long.signum(w) * Long.signum(v) < 0 || w == 0) {
                return i;
            }
            i++;
        }
    }

    int drawn(int seed, int n, int way) {
        if (n < 1 || n > 8 || no(way)) {
            return BAD;
        }
        Way w = new Way();
        int z = seed;
        for (int i = 0; i < n; i++) {
            z = z * 1103515245 + 12345;
            w.points.add(new int[] {600 * i / n, (z >>> 9) % (far + 1)});
        }
        TreeSet<Integer> in = meetings(row(ways.get(way), 0), row(w, 0));
        return in.isEmpty() ? NONE : in.first();
    }

    long chance(int seed, int n, int way, int part) {
        if (no(way) || n < 1 || n > 20 || part < 0 || part > 1) {
            return NO;
        }
        int many = 0;
        for (int i = 0; i < n; i++) {
            many += drawn(seed + i, 4, way) != NONE ? 1 : 0;
        }
        return fraction(many, n, part);
    }

    int image() {
        keptFar = far;
        keptRule = rule;
        kept = new ArrayList<>();
        for (Way w : ways) {
            kept.add(twin(w));
        }
        return kept.size();
    }

    int back() {
        if (kept == null) {
            return STATE;
        }
        far = keptFar;
        rule = keptRule;
        ways = new ArrayList<>();
        for (Way w : kept) {
            ways.add(twin(w));
        }
        return ways.size();
    }

    int count(int what) {
        int[] all = {ways.size(), far, ways.stream().mapToInt(w -> w.points.size()).sum(), texts.size(),
            tape.length(), rule};
        return what < 0 || what > 5 ? BAD : all[what];
    }

    int sheet(int sheet, int sort, int n) {
        if (noSheet(sheet) || sort < -1 || sort > 2 || sort >= 0 && n > 40) {
            return BAD;
        }
        try {
            sheets[sheet] = sort == -1 ? null : sort == 0 ? new byte[n] : sort == 1 ? new short[n] : new int[n];
        } catch (NegativeArraySizeException e) {
            return -14;
        }
        return 1;
    }

    int cell(int sheet, int i, int v) {
        if (noSheet(sheet)) {
            return BAD;
        }
        try {
            Object s = sheets[sheet];
            if (s instanceof byte[] b) {
                b[i] = (byte) v;
            } else if (s instanceof short[] h) {
                h[i] = (short) v;
            } else {
                ((int[]) s)[i] = v;
            }
        } catch (NullPointerException e) {
            return -11;
        } catch (ArrayIndexOutOfBoundsException e) {
            return -12;
        }
        return 1;
    }

    int copy(int sheet, int i, int other, int j, int n) {
        if (noSheet(sheet) || noSheet(other)) {
            return BAD;
        }
        try {
            System.arraycopy(sheets[sheet], i, sheets[other], j, n);
        } catch (NullPointerException e) {
            return -11;
        } catch (ArrayStoreException e) {
            return -13;
        } catch (IndexOutOfBoundsException e) {
            return -12;
        }
        return n;
    }

    private int item(Object s, int sort, int i) {
        return sort == 0 ? ((byte[]) s)[i] : sort == 1 ? ((short[]) s)[i] : ((int[]) s)[i];
    }

    int points(int sheet, int sort, int from, int n) {
        if (noSheet(sheet) || sort < 0 || sort > 2 || n < 0 || n > 13) {
            return BAD;
        }
        try {
            Object s = sheets[sheet];
            int size = sort == 0 ? ((byte[]) s).length : sort == 1 ? ((short[]) s).length : ((int[]) s).length;
            int came = 0;
            for (int k = 0; k < n && size >= 0; k++) {
                int row = from + 3 * k;
                int way = item(s, sort, row);
                int minute = item(s, sort, row + 1);
                came += point(way, minute, item(s, sort, row + 2)) > 0 ? 1 : 0;
            }
            return came;
        } catch (ClassCastException e) {
            return -13;
        } catch (NullPointerException e) {
            return -11;
        } catch (ArrayIndexOutOfBoundsException e) {
            return -12;
        }
    }

    int taken(int way, int k) {
        if (k < 0 || k > 5) {
            return BAD;
        }
        if (no(way)) {
            return -11;
        }
        return KINDS.get(k).isInstance(ways.get(way)) ? ways.get(way).number : -13;
    }
}
