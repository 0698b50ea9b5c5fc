/** WAYS along one mountain path: where each is when, where two meet, and what can be told from that. */
public final class SamePlace {
    public static final int NONE = -1, BAD = -2, STATE = -3, FULL = -4;
    public static final long NO = -4611686018427387904L;

    private static final int NOTHING = -11, OUTSIDE = -12, OTHER_SORT = -13, BELOW_ZERO = -14;
    private static final int NONE_SUCH = -1000, FAULT_BASE = -100, NO_CLOCK = 99;

    private static final int LAST = 600, THOUSAND = 1000;
    private static final int LEAST_LONG = 10, MOST_LONG = 999, FIRST_LONG = 600;
    private static final int MOST_WAYS = 6, MOST_POINTS = 8, MOST_NUMBER = 9;
    private static final int MOST_TEXTS = 6, MOST_BYTES = 160, MOST_OPEN = 5, MOST_DIGITS = 4;
    private static final int MOST_SHEETS = 4, MOST_ITEMS = 40, MOST_ROWS = 13;
    private static final int MOST_LATER = 120, MOST_STRETCH = 300, MOST_OFF = 60;
    private static final int MOST_SEEDS = 20, SEED_POINTS = 4;
    private static final int POSTS = 11, POST_STEP = 60, PAIRS = 15;

    private static final int KINDS = 6, LATE = 1, TURNED = 2, SLOW = 3, HALTING = 4, WILD = 5;
    private static final int[] UNDER = {-1, 0, 0, 1, 2, 1};

    private static final int SORTS = 3, BYTES = 0, SHORTS = 1, MISSING = -1;

    private static final int PARTS = 3, NEAR_PART = 0, OFF_PART = 1, WORTH_PART = 2;
    private static final int[] PART_LEAST = {0, -60, 0};
    private static final int[] PART_MOST = {9999, 60, 99};

    // TOKENS: the WORDS and then the SIGNS, each in the order of its own text here.
    private static final String WORDS = "minute place way pace far points near off worth or and not ";
    private static final String SIGNS = "();+-*<=";
    private static final int PLACE = 1, NAMES = 6, NEAR = 6, OR = 9, AND = 10, NOT = 11;
    private static final int FIRST_SIGN = 12, OPEN = 12, CLOSE = 13, SEMICOLON = 14;
    private static final int PLUS = 15, MINUS = 16, TIMES = 17, LESS = 18, SAME = 19;
    private static final int NUMBER = 20, END = 21, BROKEN = 22, NEGATE = 23;

    // How tightly the parts of an E hold together, the loosest first.
    private static final int OR_LEVEL = 0, AND_LEVEL = 1, NOT_LEVEL = 2, SUM_LEVEL = 3, TERM_LEVEL = 4, ONE_LEVEL = 5;

    private final Path path = new Path();
    private final Path kept = new Path();
    private boolean hasImage;

    private final Tape tape = new Tape();
    private final Text[] texts = new Text[MOST_TEXTS];
    private int textCount;

    private final Sheet[] sheets = new Sheet[MOST_SHEETS];

    // Rows that calls use again and again, so that no call makes one of its own.
    private final int[] ones = new int[LAST + 1];
    private final int[] others = new int[LAST + 1];
    private final int[] names = new int[NAMES];
    private final int[] stack = new int[MOST_BYTES];
    private final int[] unlike = new int[PAIRS];
    private final Way sketch = new Way();

    public SamePlace() {
        for (int i = 0; i < MOST_TEXTS; i++) {
            texts[i] = new Text();
        }
        for (int i = 0; i < MOST_SHEETS; i++) {
            sheets[i] = new Sheet();
        }
        texts[0].becomeFirst();
        textCount = 1;
    }

    // ---- the path, ways

    public int set(int what, int of, int v) {
        if (what == 0) {
            return changeLong(v);
        }
        return what == 1 ? changeNumber(of, v) : BAD;
    }

    private int changeLong(int v) {
        if (v < LEAST_LONG || v > MOST_LONG) {
            return BAD;
        }
        if (v < path.farthestPlace()) {
            return STATE;
        }
        int was = path.far;
        path.far = v;
        return was;
    }

    private int changeNumber(int way, int v) {
        if (!path.has(way) || !isNumber(v)) {
            return BAD;
        }
        int was = path.ways[way].number;
        path.ways[way].number = v;
        return was;
    }

    public int way(int kind, int number) {
        if (!isKind(kind) || !isNumber(number)) {
            return BAD;
        }
        if (path.size >= MOST_WAYS) {
            return FULL;
        }
        path.ways[path.size].begin(kind, number);
        path.size++;
        return path.size - 1;
    }

    public int point(int way, int minute, int place) {
        return addPoint(way, minute, place);
    }

    private int addPoint(int way, int minute, int place) {
        if (!path.has(way) || !isMinute(minute) || place < 0 || place > path.far) {
            return BAD;
        }
        Way w = path.ways[way];
        if (!w.endsAhead(minute)) {
            return BAD;
        }
        if (w.size >= MOST_POINTS) {
            return FULL;
        }
        w.add(minute, place);
        return w.size;
    }

    public int clear(int way) {
        if (!path.has(way)) {
            return BAD;
        }
        int had = path.ways[way].size;
        path.ways[way].size = 0;
        return had;
    }

    public int told(int way, int what) {
        if (!path.has(way) || what < 0) {
            return BAD;
        }
        Way w = path.ways[way];
        if (what == 0) {
            return w.kind;
        }
        if (what == 1) {
            return w.number;
        }
        if (what == 2) {
            return w.size;
        }
        int i = (what - 3) / 2;
        if (i >= w.size) {
            return BAD;
        }
        return what % 2 == 1 ? w.minutes[i] : w.places[i];
    }

    // ---- texts

    public int feed(int letter) {
        if (letter < 0 || letter > 255) {
            return BAD;
        }
        if (tape.size >= MOST_BYTES) {
            return FULL;
        }
        tape.add(letter);
        return tape.size;
    }

    public int text() {
        if (textCount >= MOST_TEXTS) {
            return FULL;
        }
        int fault = tape.readInto(texts[textCount]);
        tape.size = 0;
        if (fault != NONE) {
            return FAULT_BASE - fault;
        }
        textCount++;
        return textCount - 1;
    }

    public int force(int text) {
        if (text < 0 || text >= textCount) {
            return BAD;
        }
        int was = path.rule;
        path.rule = text;
        return was;
    }

    /** What a part of THE RULE tells of a WAY in a MINUTE. */
    private int ruled(int part, int way, int minute) {
        Way w = path.ways[way];
        int here = w.where(minute, path.far);
        int ahead = minute > 0 ? w.where(minute - 1, path.far) : here;
        names[0] = minute;
        names[1] = here / THOUSAND;
        names[2] = way;
        names[3] = Math.abs(here - ahead);
        names[4] = path.far;
        names[5] = w.size;
        return within(PART_LEAST[part], texts[path.rule].tell(part, names, stack), PART_MOST[part]);
    }

    // ---- one way

    public int at(int way, int minute) {
        if (!path.has(way) || !isMinute(minute)) {
            return BAD;
        }
        return path.ways[way].where(minute, path.far);
    }

    public int asks(int part, int way, int minute) {
        if (part < 0 || part >= PARTS || !path.has(way) || !isMinute(minute)) {
            return NONE_SUCH;
        }
        return ruled(part, way, minute);
    }

    public int length(int way, int from, int to) {
        if (!path.has(way) || !isMinute(from) || !isMinute(to) || to < from) {
            return BAD;
        }
        layWalked(way);
        return ones[to] - ones[from];
    }

    public int mean(int way, int t) {
        if (!path.has(way) || t < 1 || t > MOST_STRETCH) {
            return BAD;
        }
        layWalked(way);
        long here = beyondMean(0, t);
        for (int s = 0; s < LAST - t; s++) {
            long next = beyondMean(s + 1, t);
            if (here == 0 || areOpposite(here, next)) {
                return s;
            }
            here = next;
        }
        return here == 0 ? LAST - t : NONE;
    }

    /** E of a MINUTE, once LENGTH is laid out. */
    private long beyondMean(int s, int t) {
        return (long) LAST * (ones[s + t] - ones[s]) - (long) t * ones[LAST];
    }

    public int half(int way, int what) {
        if (!path.has(way) || what < 0 || what > 2) {
            return BAD;
        }
        if (what == 0) {
            return halfWalked(way);
        }
        int best = bestMinute(way);
        return what == 1 ? best : ruled(WORTH_PART, way, best);
    }

    private int halfWalked(int way) {
        layWalked(way);
        int m = 0;
        while (m < LAST && 2 * ones[m] < ones[LAST]) {
            m++;
        }
        return m;
    }

    private int bestMinute(int way) {
        int best = 0;
        int most = ruled(WORTH_PART, way, 0);
        for (int m = 1; m <= LAST; m++) {
            int worth = ruled(WORTH_PART, way, m);
            if (worth > most) {
                most = worth;
                best = m;
            }
        }
        return best;
    }

    /** LENGTH of a WAY from 0 to each MINUTE, laid out in ones. */
    private void layWalked(int way) {
        Way w = path.ways[way];
        int ahead = w.where(0, path.far);
        ones[0] = 0;
        for (int m = 1; m <= LAST; m++) {
            int here = w.where(m, path.far);
            ones[m] = ones[m - 1] + Math.abs(here - ahead);
            ahead = here;
        }
    }

    // ---- two

    public int meet(int one, int other, int what) {
        if (!areTwo(one, other) || what < 0 || what > 3) {
            return BAD;
        }
        layTwo(one, other);
        if (what == 1) {
            return firstMeeting(0);
        }
        return what == 2 ? lastMeeting() : what == 0 ? meetings() : meetings() % 2;
    }

    private int meetings() {
        int many = 0;
        for (int m = 0; m <= LAST; m++) {
            if (meetIn(m)) {
                many++;
            }
        }
        return many;
    }

    private int lastMeeting() {
        int m = LAST;
        while (m >= 0 && !meetIn(m)) {
            m--;
        }
        return m < 0 ? NONE : m;
    }

    public long when(int one, int other, int part) {
        if (!areTwo(one, other) || part < 0 || part > 1) {
            return NO;
        }
        layTwo(one, other);
        int m = firstMeeting(0);
        if (m == NONE) {
            return NO;
        }
        long x = Math.abs(gap(m, 0));
        // In MINUTE 600 they MEET only if D is 0, so that no MINUTE behind it is looked at.
        if (x == 0 || m >= LAST) {
            return part == 0 ? m : 1;
        }
        long both = x + Math.abs(gap(m + 1, 0));
        return lowest(m * both + x, both, part);
    }

    public int sure(int one, int other) {
        if (!areTwo(one, other)) {
            return BAD;
        }
        layTwo(one, other);
        int later = 0;
        while (later <= MOST_LATER && firstMeeting(later) != NONE) {
            later++;
        }
        return later == 0 ? NONE : later - 1;
    }

    public int apart(int one, int other, int what) {
        if (!areTwo(one, other) || what < 0 || what > 2) {
            return BAD;
        }
        layTwo(one, other);
        if (what == 2) {
            return nearMinutes(one);
        }
        int m = farthestMinute();
        return what == 1 ? m : Math.abs(gap(m, 0));
    }

    private int farthestMinute() {
        int best = 0;
        int most = Math.abs(gap(0, 0));
        for (int m = 1; m <= LAST; m++) {
            int d = Math.abs(gap(m, 0));
            if (d > most) {
                most = d;
                best = m;
            }
        }
        return best;
    }

    private int nearMinutes(int one) {
        int many = 0;
        for (int m = 0; m <= LAST; m++) {
            if (Math.abs(gap(m, 0)) <= ruled(NEAR_PART, one, m)) {
                many++;
            }
        }
        return many;
    }

    private boolean areTwo(int one, int other) {
        return path.has(one) && path.has(other) && one != other;
    }

    /** AT of two WAYS in each MINUTE, laid out in ones and others. */
    private void layTwo(int one, int other) {
        path.ways[one].lay(ones, path.far);
        path.ways[other].lay(others, path.far);
    }

    /** D of a MINUTE, had the one set out some MINUTES later. */
    private int gap(int m, int later) {
        return ones[Math.max(0, m - later)] - others[m];
    }

    private boolean meetIn(int m) {
        int here = gap(m, 0);
        if (here == 0) {
            return true;
        }
        return m < LAST && areOpposite(here, gap(m + 1, 0));
    }

    /** The first MINUTE in which the two MEET, had the one set out some MINUTES later. */
    private int firstMeeting(int later) {
        int here = gap(0, later);
        for (int m = 0; m < LAST; m++) {
            int next = gap(m + 1, later);
            if (here == 0 || areOpposite(here, next)) {
                return m;
            }
            here = next;
        }
        return here == 0 ? LAST : NONE;
    }

    // ---- notes, signposts

    public int fits(int sheet) {
        if (!isSheet(sheet)) {
            return BAD;
        }
        Sheet notes = sheets[sheet];
        if (notes.isMissing()) {
            return NOTHING;
        }
        if (!areNotes(notes)) {
            return BAD;
        }
        int fitting = 0;
        for (int way = 0; way < path.size; way++) {
            if (fitsByRule(notes, way)) {
                fitting |= 1 << way;
            }
        }
        return fitting;
    }

    private boolean fitsByRule(Sheet notes, int way) {
        for (int row = 0; row + 2 < notes.size; row += 3) {
            int off = ruled(OFF_PART, way, notes.items[row]);
            if (!agrees(notes, row, way, off)) {
                return false;
            }
        }
        return true;
    }

    public int wrong(int sheet, int way, int what) {
        if (!isSheet(sheet) || !path.has(way) || what < 0 || what > 1) {
            return NONE_SUCH;
        }
        Sheet notes = sheets[sheet];
        if (notes.isMissing() || !areNotes(notes)) {
            return NONE_SUCH;
        }
        return what == 0 ? clocks(notes, way) : nearestClock(notes, way);
    }

    private int clocks(Sheet notes, int way) {
        int many = 0;
        for (int c = -MOST_OFF; c <= MOST_OFF; c++) {
            if (fitsBy(notes, way, c)) {
                many++;
            }
        }
        return many;
    }

    private int nearestClock(Sheet notes, int way) {
        for (int c = 0; c <= MOST_OFF; c++) {
            if (fitsBy(notes, way, -c)) {
                return -c;
            }
            if (fitsBy(notes, way, c)) {
                return c;
            }
        }
        return NO_CLOCK;
    }

    private boolean fitsBy(Sheet notes, int way, int off) {
        for (int row = 0; row + 2 < notes.size; row += 3) {
            if (!agrees(notes, row, way, off)) {
                return false;
            }
        }
        return true;
    }

    /** Whether a WAY is, by a clock that is off, as near as a row of NOTES tells. */
    private boolean agrees(Sheet notes, int row, int way, int off) {
        int m = within(0, notes.items[row] + off, LAST);
        // A place on a SHEET may be any int, and 1000 times it no int any more.
        long noted = (long) THOUSAND * notes.items[row + 1];
        return Math.abs(path.ways[way].where(m, path.far) - noted) <= notes.items[row + 2];
    }

    private static boolean areNotes(Sheet notes) {
        if (notes.size % 3 != 0) {
            return false;
        }
        for (int row = 0; row < notes.size; row += 3) {
            if (!isMinute(notes.items[row])) {
                return false;
            }
        }
        return true;
    }

    public int posts(int what) {
        if (what < 0 || what > 1) {
            return BAD;
        }
        int set = fewestPosts(layUnlike());
        return what == 0 || set == NONE ? set : Integer.bitCount(set);
    }

    /** For any two WAYS in which signposts' MINUTES they are AT unlike places, laid out: how many pairs. */
    private int layUnlike() {
        int pairs = 0;
        for (int one = 0; one < path.size; one++) {
            for (int other = 0; other < one && pairs < PAIRS; other++) {
                unlike[pairs] = unlikePosts(path.ways[one], path.ways[other]);
                pairs++;
            }
        }
        return pairs;
    }

    private int unlikePosts(Way one, Way other) {
        int set = 0;
        for (int i = 0; i < POSTS; i++) {
            int m = POST_STEP * i;
            if (one.where(m, path.far) != other.where(m, path.far)) {
                set |= 1 << i;
            }
        }
        return set;
    }

    private int fewestPosts(int pairs) {
        int best = NONE;
        int fewest = POSTS + 1;
        for (int set = 0; set < 1 << POSTS; set++) {
            int many = Integer.bitCount(set);
            if (many < fewest && tellsAllApart(set, pairs)) {
                best = set;
                fewest = many;
            }
        }
        return best;
    }

    private boolean tellsAllApart(int set, int pairs) {
        for (int i = 0; i < pairs; i++) {
            if ((set & unlike[i]) == 0) {
                return false;
            }
        }
        return true;
    }

    // ---- beads, heat

    public int beads(int sheet) {
        if (!isSheet(sheet)) {
            return BAD;
        }
        Sheet ring = sheets[sheet];
        if (ring.isMissing()) {
            return NOTHING;
        }
        if (ring.size % 2 != 0) {
            return BAD;
        }
        int due = ring.filled(0, ring.size) / 2;
        for (int i = 0; i < ring.size; i++) {
            if (ring.filled(i, ring.size / 2) == due) {
                return i;
            }
        }
        return NONE;
    }

    public int heat(int sheet) {
        if (!isSheet(sheet)) {
            return BAD;
        }
        Sheet ring = sheets[sheet];
        if (ring.isMissing()) {
            return NOTHING;
        }
        if (ring.size % 2 != 0 || ring.size == 0) {
            return BAD;
        }
        for (int i = 0; i < ring.size; i++) {
            long here = ring.acrossFrom(i);
            if (here == 0 || areOpposite(here, ring.acrossFrom(i + 1))) {
                return i;
            }
        }
        return NONE;
    }

    public int drawn(int seed, int n, int way) {
        if (n < 1 || n > MOST_POINTS || !path.has(way)) {
            return BAD;
        }
        path.ways[way].lay(ones, path.far);
        return meetsDrawn(seed, n);
    }

    /** The first MINUTE in which the WAY laid out in ones and one DRAWN by a SEED MEET. */
    private int meetsDrawn(int seed, int n) {
        if (n < 1) {
            return NONE;
        }
        sketch.begin(0, 0);
        int z = seed;
        for (int i = 0; i < n; i++) {
            z = z * 1103515245 + 12345;
            sketch.add(LAST * i / n, rest(z >>> 9, path.far + 1));
        }
        sketch.lay(others, path.far);
        return firstMeeting(0);
    }

    public long chance(int seed, int n, int way, int part) {
        if (!path.has(way) || n < 1 || n > MOST_SEEDS || part < 0 || part > 1) {
            return NO;
        }
        path.ways[way].lay(ones, path.far);
        int many = 0;
        for (int i = 0; i < n; i++) {
            if (meetsDrawn(seed + i, SEED_POINTS) != NONE) {
                many++;
            }
        }
        return lowest(many, n, part);
    }

    public int image() {
        kept.become(path);
        hasImage = true;
        return path.size;
    }

    public int back() {
        if (!hasImage) {
            return STATE;
        }
        path.become(kept);
        return path.size;
    }

    public int count(int what) {
        switch (what) {
            case 0:
                return path.size;
            case 1:
                return path.far;
            case 2:
                return path.allPoints();
            case 3:
                return textCount;
            case 4:
                return tape.size;
            case 5:
                return path.rule;
            default:
                return BAD;
        }
    }

    // ---- the host

    public int sheet(int sheet, int sort, int n) {
        if (!isSheet(sheet)) {
            return BAD;
        }
        if (sort == MISSING) {
            sheets[sheet].begin(MISSING, 0);
            return 1;
        }
        if (!isSort(sort) || n > MOST_ITEMS) {
            return BAD;
        }
        if (n < 0) {
            return BELOW_ZERO;
        }
        sheets[sheet].begin(sort, n);
        return 1;
    }

    public int cell(int sheet, int i, int v) {
        if (!isSheet(sheet)) {
            return BAD;
        }
        if (sheets[sheet].isMissing()) {
            return NOTHING;
        }
        if (!sheets[sheet].holds(i, 1)) {
            return OUTSIDE;
        }
        sheets[sheet].put(i, v);
        return 1;
    }

    public int copy(int sheet, int i, int other, int j, int n) {
        if (!isSheet(sheet) || !isSheet(other)) {
            return BAD;
        }
        Sheet from = sheets[sheet];
        Sheet to = sheets[other];
        if (from.isMissing() || to.isMissing()) {
            return NOTHING;
        }
        if (from.sort != to.sort) {
            return OTHER_SORT;
        }
        if (!from.holds(i, n) || !to.holds(j, n)) {
            return OUTSIDE;
        }
        System.arraycopy(from.items, i, to.items, j, n);
        return n;
    }

    public int points(int sheet, int sort, int from, int n) {
        if (!isSheet(sheet) || !isSort(sort) || n < 0 || n > MOST_ROWS) {
            return BAD;
        }
        Sheet rows = sheets[sheet];
        // What is missing can be taken for any sort, so this is asked ahead of whether it is.
        if (!rows.isMissing() && rows.sort != sort) {
            return OTHER_SORT;
        }
        if (rows.isMissing()) {
            return NOTHING;
        }
        int came = 0;
        for (int k = 0; k < n; k++) {
            int row = from + 3 * k;
            if (!rows.holds(row, 3)) {
                return OUTSIDE;
            }
            if (addPoint(rows.items[row], rows.items[row + 1], rows.items[row + 2]) > 0) {
                came++;
            }
        }
        return came;
    }

    public int taken(int way, int k) {
        if (!isKind(k)) {
            return BAD;
        }
        if (!path.has(way)) {
            return NOTHING;
        }
        return isUnder(path.ways[way].kind, k) ? path.ways[way].number : OTHER_SORT;
    }

    /** Whether a KIND is another one or stands under it, also by others between. */
    private static boolean isUnder(int kind, int other) {
        int up = kind;
        for (int step = 0; step < KINDS && isKind(up); step++) {
            if (up == other) {
                return true;
            }
            up = UNDER[up];
        }
        return false;
    }

    // ---- numbers

    private static boolean isMinute(int m) {
        return m >= 0 && m <= LAST;
    }

    private static boolean isKind(int kind) {
        return kind >= 0 && kind < KINDS;
    }

    private static boolean isNumber(int number) {
        return number >= 0 && number <= MOST_NUMBER;
    }

    private static boolean isSheet(int sheet) {
        return sheet >= 0 && sheet < MOST_SHEETS;
    }

    private static boolean isSort(int sort) {
        return sort >= 0 && sort < SORTS;
    }

    private static int within(int least, int v, int most) {
        return Math.max(least, Math.min(v, most));
    }

    private static boolean areOpposite(long a, long b) {
        return a > 0 && b < 0 || a < 0 && b > 0;
    }

    private static int rest(int v, int by) {
        return by < 1 ? 0 : v % by;
    }

    /** A part (0 above, 1 below the line) of a fraction in lowest terms. */
    private static long lowest(long above, long below, int part) {
        long common = commonDivisor(above, below);
        long v = part == 0 ? above : below;
        return common == 0 ? v : v / common;
    }

    private static long commonDivisor(long a, long b) {
        long big = a;
        long small = b;
        // A long has gone down to 0 by less than a hundred steps.
        for (int step = 0; step < 200 && small != 0; step++) {
            long left = big % small;
            big = small;
            small = left;
        }
        return big;
    }

    /** LONG, the WAYS and THE RULE: what AN IMAGE keeps. */
    private static final class Path {
        private int far = FIRST_LONG;
        private int size;
        private int rule;
        private final Way[] ways = new Way[MOST_WAYS];

        Path() {
            for (int i = 0; i < MOST_WAYS; i++) {
                ways[i] = new Way();
            }
        }

        boolean has(int way) {
            return way >= 0 && way < size;
        }

        void become(Path other) {
            far = other.far;
            size = other.size;
            rule = other.rule;
            for (int i = 0; i < size; i++) {
                ways[i].become(other.ways[i]);
            }
        }

        int allPoints() {
            int all = 0;
            for (int i = 0; i < size; i++) {
                all += ways[i].size;
            }
            return all;
        }

        int farthestPlace() {
            int most = 0;
            for (int i = 0; i < size; i++) {
                most = Math.max(most, ways[i].farthestPlace());
            }
            return most;
        }
    }

    /** One WAY: its KIND, its NUMBER and its POINTS. */
    private static final class Way {
        private int kind;
        private int number;
        private int size;
        private final int[] minutes = new int[MOST_POINTS];
        private final int[] places = new int[MOST_POINTS];

        void begin(int newKind, int newNumber) {
            kind = newKind;
            number = newNumber;
            size = 0;
        }

        void become(Way other) {
            begin(other.kind, other.number);
            for (int i = 0; i < other.size; i++) {
                add(other.minutes[i], other.places[i]);
            }
        }

        void add(int minute, int place) {
            if (size < MOST_POINTS) {
                minutes[size] = minute;
                places[size] = place;
                size++;
            }
        }

        /** Whether all POINTS are ahead of a MINUTE. */
        boolean endsAhead(int minute) {
            return size < 1 || minutes[size - 1] < minute;
        }

        int farthestPlace() {
            int most = 0;
            for (int i = 0; i < size; i++) {
                most = Math.max(most, places[i]);
            }
            return most;
        }

        /** AT in each MINUTE, laid out in a row. */
        void lay(int[] row, int far) {
            for (int m = 0; m < row.length; m++) {
                row[m] = where(m, far);
            }
        }

        /** AT in a MINUTE on a path of some LONG. */
        int where(int m, int far) {
            return within(0, unbound(m, far), THOUSAND * far);
        }

        private int unbound(int m, int far) {
            switch (kind) {
                case LATE:
                    return late(m);
                case TURNED:
                    return turned(m, far);
                case SLOW:
                    return late(m) / 2;
                case HALTING:
                    return turned(m - rest(m, number + 1), far);
                case WILD:
                    return late(m) + THOUSAND * rest(m, number + 2);
                default:
                    return byPoints(m);
            }
        }

        private int late(int m) {
            return byPoints(Math.max(0, m - 10 * number));
        }

        private int turned(int m, int far) {
            return THOUSAND * far - byPoints(m);
        }

        /** TOLD for a MINUTE. */
        private int byPoints(int m) {
            if (size < 1) {
                return 0;
            }
            int behind = 0;
            while (behind < size && minutes[behind] <= m) {
                behind++;
            }
            if (behind == 0 || behind == size) {
                return THOUSAND * places[behind == 0 ? 0 : size - 1];
            }
            int ahead = behind - 1;
            int start = THOUSAND * places[ahead];
            int span = minutes[behind] - minutes[ahead];
            int rise = THOUSAND * (places[behind] - places[ahead]) * (m - minutes[ahead]);
            return span < 1 ? start : start + rise / span;
        }
    }

    /** A TEXT as code: a NUMBER is itself, a NAME or what joins is its TOKEN turned by ~, behind what it joins. */
    private static final class Text {
        private final int[] code = new int[MOST_BYTES];
        private final int[] ends = new int[PARTS];
        private int size;

        void begin() {
            size = 0;
        }

        void becomeFirst() {
            begin();
            put(500);
            endPart(NEAR_PART);
            put(0);
            endPart(OFF_PART);
            put(~PLACE);
            endPart(WORTH_PART);
        }

        void put(int what) {
            if (size < MOST_BYTES) {
                code[size] = what;
                size++;
            }
        }

        void endPart(int part) {
            ends[part] = size;
        }

        /** The value of a part, not yet brought within its bounds. */
        int tell(int part, int[] names, int[] stack) {
            int top = 0;
            for (int i = part == 0 ? 0 : ends[part - 1]; i < ends[part]; i++) {
                int what = code[i];
                if (what >= 0 || ~what < NAMES) {
                    if (top < stack.length) {
                        stack[top] = what >= 0 ? what : names[~what];
                        top++;
                    }
                } else if (~what == NOT || ~what == NEGATE) {
                    if (top >= 1) {
                        stack[top - 1] = ~what == NEGATE ? -stack[top - 1] : truth(stack[top - 1] == 0);
                    }
                } else if (top >= 2) {
                    top--;
                    stack[top - 1] = joined(~what, stack[top - 1], stack[top]);
                }
            }
            return top < 1 ? 0 : stack[top - 1];
        }

        private static int joined(int sign, int a, int b) {
            switch (sign) {
                case OR:
                    return truth(a != 0 || b != 0);
                case AND:
                    return truth(a != 0 && b != 0);
                case LESS:
                    return truth(a < b);
                case SAME:
                    return truth(a == b);
                case PLUS:
                    return a + b;
                case MINUS:
                    return a - b;
                default:
                    return a * b;
            }
        }

        private static int truth(boolean is) {
            return is ? 1 : 0;
        }
    }

    /** THE TAPE, and how it is read, one TOKEN ahead, into a TEXT. */
    private static final class Tape {
        private final int[] bytes = new int[MOST_BYTES];
        private int size;
        private int next;
        private int start;
        private int token;
        private int value;
        private int fault;
        private Text out;

        void add(int letter) {
            if (size < MOST_BYTES) {
                bytes[size] = letter;
                size++;
            }
        }

        /** The place of the FAULT; NONE: the TEXT stands. */
        int readInto(Text into) {
            next = 0;
            fault = NONE;
            out = into;
            into.begin();
            advance();
            for (int part = 0; part < PARTS; part++) {
                expect(NEAR + part);
                phrase(OR_LEVEL, 0);
                expect(SEMICOLON);
                into.endPart(part);
            }
            expect(END);
            return fault;
        }

        private void expect(int wanted) {
            if (token == wanted) {
                advance();
            } else {
                refuse();
            }
        }

        private void refuse() {
            if (fault == NONE) {
                fault = start;
            }
            // From here on no TOKEN fits, so that all that is open ends without reading on.
            token = BROKEN;
        }

        private void emit(int what) {
            if (out != null) {
                out.put(what);
            }
        }

        /** An E, or what holds together more tightly in it, while some ( and not and - are open. */
        private void phrase(int level, int open) {
            if (level == ONE_LEVEL) {
                one(open);
                return;
            }
            if (level == NOT_LEVEL && token == NOT && open < MOST_OPEN) {
                advance();
                phrase(NOT_LEVEL, open + 1);
                emit(~NOT);
                return;
            }
            phrase(level + 1, open);
            int most = level == NOT_LEVEL ? 1 : MOST_BYTES;
            for (int k = 0; k < most && joins(level); k++) {
                int sign = token;
                advance();
                phrase(level + 1, open);
                emit(~sign);
            }
        }

        private boolean joins(int level) {
            switch (level) {
                case OR_LEVEL:
                    return token == OR;
                case AND_LEVEL:
                    return token == AND;
                case NOT_LEVEL:
                    return token == LESS || token == SAME;
                case SUM_LEVEL:
                    return token == PLUS || token == MINUS;
                case TERM_LEVEL:
                    return token == TIMES;
                default:
                    return false;
            }
        }

        private void one(int open) {
            int first = token;
            boolean opens = (first == MINUS || first == OPEN) && open < MOST_OPEN;
            if (!opens && first != NUMBER && first >= NAMES) {
                refuse();
                return;
            }
            int what = first == NUMBER ? value : ~first;
            advance();
            if (!opens) {
                emit(what);
            } else if (first == MINUS) {
                phrase(ONE_LEVEL, open + 1);
                emit(~NEGATE);
            } else {
                phrase(OR_LEVEL, open + 1);
                expect(CLOSE);
            }
        }

        private void advance() {
            while (next < size && (bytes[next] == 32 || bytes[next] == 10)) {
                next++;
            }
            start = next;
            if (next >= size) {
                token = END;
            } else if (isLetter(bytes[next])) {
                readWord();
            } else if (isDigit(bytes[next])) {
                readNumber();
            } else {
                int sign = SIGNS.indexOf((char) bytes[next]);
                token = sign < 0 ? BROKEN : FIRST_SIGN + sign;
                next++;
            }
        }

        private void readWord() {
            while (next < size && isLetter(bytes[next])) {
                next++;
            }
            token = BROKEN;
            int which = 0;
            int from = 0;
            for (int i = 0; i < WORDS.length() && token == BROKEN; i++) {
                if (WORDS.charAt(i) == ' ') {
                    if (isWord(from, i)) {
                        token = which;
                    }
                    which++;
                    from = i + 1;
                }
            }
        }

        /** Whether the TOKEN is what stands in WORDS from one place up to another. */
        private boolean isWord(int from, int to) {
            if (next - start != to - from) {
                return false;
            }
            for (int i = start; i < next; i++) {
                if (bytes[i] != WORDS.charAt(from + i - start)) {
                    return false;
                }
            }
            return true;
        }

        private void readNumber() {
            value = 0;
            while (next < size && isDigit(bytes[next])) {
                value = 10 * value + bytes[next] - '0';
                next++;
            }
            token = next - start > MOST_DIGITS ? BROKEN : NUMBER;
        }

        private static boolean isLetter(int c) {
            return c >= 'a' && c <= 'z';
        }

        private static boolean isDigit(int c) {
            return c >= '0' && c <= '9';
        }
    }

    /** A row of numbers of a sort, or missing. */
    private static final class Sheet {
        private int sort = MISSING;
        private int size;
        private final int[] items = new int[MOST_ITEMS];

        void begin(int newSort, int n) {
            sort = newSort;
            size = Math.min(n, MOST_ITEMS);
            for (int i = 0; i < size; i++) {
                items[i] = 0;
            }
        }

        boolean isMissing() {
            return sort == MISSING;
        }

        /** Whether n items from item i on stand here. */
        boolean holds(int i, int n) {
            return i >= 0 && n >= 0 && n <= size && i <= size - n;
        }

        void put(int i, int v) {
            items[i] = sort == BYTES ? (byte) v : sort == SHORTS ? (short) v : v;
        }

        /** Item i, counted on round the ring. */
        private int onRing(int i) {
            return items[rest(i, size)];
        }

        /** How many of n numbers from item i on, round, aren't 0. */
        int filled(int i, int n) {
            int many = 0;
            for (int k = 0; k < n; k++) {
                if (onRing(i + k) != 0) {
                    many++;
                }
            }
            return many;
        }

        /** W: a place's number less that of the place across from it. */
        long acrossFrom(int i) {
            return (long) onRing(i) - onRing(i + size / 2);
        }
    }
}
