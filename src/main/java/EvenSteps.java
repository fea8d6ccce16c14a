/**
 * Rows of steps as even as can be. The words in capitals are those of the document (shared/DOC.md).
 */
public final class EvenSteps {
    public static final int NONE = -1, NO = -1000000;

    private static final int DONE = 0, OUTSIDE = 1, FULL = 2, NOT_SO = 3;
    private static final int NOTHING = 10, OTHER_SORT = 11, NO_PLACE = 12, BELOW_ZERO = 13, NO_FIT = 14, BY_ZERO = 15;

    private static final int MOST_SLOPES = 8, MOST_ROWS = 10, MOST_SHEETS = 4;
    private static final int LAST_PLACE = 10000;
    private static final int MOST_TOLD = 40;
    private static final int MOST_POINTS = 60;
    private static final int MOST_QUOTIENTS = 20;
    private static final int MOST_LINE = 10000;
    private static final int MOST_MULTIPLE = 2000;
    private static final int MOST_SHARED = 5000;
    private static final int MOST_HEAP = 2000;
    private static final int MOST_BITS = 40;
    private static final int PART_PLACES = 200, MOST_PART = 12;
    private static final int FORGED_ROW = 6;

    private final Slope[] slopes = new Slope[MOST_SLOPES];
    private final Row[] rows = new Row[MOST_ROWS];
    private final Sheet[] sheets = new Sheet[MOST_SHEETS];
    private final Trace bodies = new Trace();
    private final Stretch stretch = new Stretch();
    private final Circle circle = new Circle();
    private final int[] partSteps = new int[PART_PLACES + MOST_PART];
    private final int[] partStarts = new int[PART_PLACES];
    private int slopeCount;
    private int rowCount;
    private int latestStatus;

    public EvenSteps() {
        for (int i = 0; i < MOST_SHEETS; i++) {
            sheets[i] = new Sheet();
        }
    }

    // ---- SLOPES, ROWS: made and dropped ----

    public int slope(int a, int b, int c, int d) {
        if (a < -1000 || a > 1000 || b < -20 || b > 20 || c < 1 || c > 100) {
            return refuse(OUTSIDE);
        }
        if (b != 0 && (d < 2 || d > 50 || isSquare(d))) {
            return refuse(OUTSIDE);
        }
        if (slopeCount >= MOST_SLOPES) {
            return refuse(FULL);
        }
        if (signOf(a, b, d) <= 0 || signOf(a - 20L * c, b, d) > 0) {
            return refuse(NOT_SO);
        }
        slopes[slopeCount] = new Slope(a, b, c, d);
        slopeCount++;
        return done(slopeCount - 1);
    }

    public int row(int sheet, int sort, int n) {
        if (sheet < 0 || sheet >= MOST_SHEETS || sort < 0 || sort > 2 || n < 1 || n > MOST_TOLD) {
            return refuse(OUTSIDE);
        }
        if (rowCount >= MOST_ROWS) {
            return refuse(FULL);
        }
        Sheet from = sheets[sheet];
        if (from.isMissing()) {
            return refuse(NOTHING);
        }
        if (from.sort != sort) {
            return refuse(OTHER_SORT);
        }
        if (n > from.size) {
            return refuse(NO_PLACE);
        }
        if (!from.tellsSteps(n)) {
            return refuse(NOT_SO);
        }
        return keep(new Told(rowCount, from.copyOf(n)));
    }

    public int even(int slope, int u, int v) {
        Slope s = slopeAt(slope);
        if (s == null || v < 1 || v > 100 || u < 0 || u >= v) {
            return refuse(OUTSIDE);
        }
        if (rowCount >= MOST_ROWS) {
            return refuse(FULL);
        }
        return keep(new Even(rowCount, s, slope, u, v));
    }

    public int ring(int k, int m) {
        if (m < 1 || m > 60 || k < 1 || k > m) {
            return refuse(OUTSIDE);
        }
        if (rowCount >= MOST_ROWS) {
            return refuse(FULL);
        }
        return keep(new Ring(rowCount, k, m));
    }

    public int cut(int row, int zero, int zeros, int one, int ones) {
        Row source = rowAt(row);
        if (source == null || !isBits(zero, zeros) || !isBits(one, ones)) {
            return refuse(OUTSIDE);
        }
        if (rowCount >= MOST_ROWS) {
            return refuse(FULL);
        }
        return keep(new Cut(rowCount, source, zero, zeros, one, ones));
    }

    public int points(int slope) {
        Slope s = slopeAt(slope);
        if (s == null) {
            return refuse(OUTSIDE);
        }
        if (rowCount >= MOST_ROWS) {
            return refuse(FULL);
        }
        return keep(new Points(rowCount, s, slope));
    }

    public int drop(int what) {
        if (what == 0) {
            return dropRow();
        }
        return what == 1 ? dropSlope() : refuse(OUTSIDE);
    }

    private int dropRow() {
        if (rowCount < 1) {
            return refuse(NOT_SO);
        }
        rowCount--;
        rows[rowCount] = null;
        return done(rowCount);
    }

    private int dropSlope() {
        if (slopeCount < 1 || isInUse(slopeCount - 1)) {
            return refuse(NOT_SO);
        }
        slopeCount--;
        slopes[slopeCount] = null;
        return done(slopeCount);
    }

    private boolean isInUse(int slope) {
        for (int i = 0; i < rowCount; i++) {
            if (rows[i] instanceof Even even && even.slopeNumber == slope) {
                return true;
            }
        }
        return false;
    }

    public int count(int what) {
        switch (what) {
            case 0:
                return slopeCount;
            case 1:
                return rowCount;
            case 2:
                return bodies.size;
            default:
                return NONE;
        }
    }

    // ---- questions about SLOPES ----

    public int whole(int slope, int n) {
        Slope s = slopeAt(slope);
        if (s == null || n < 0 || n > 100000) {
            return NONE;
        }
        return (int) s.wholeOf(n, 0, 1);
    }

    public int against(int slope, int p, int q) {
        Slope s = slopeAt(slope);
        if (s == null || q < 1 || q > 10000 || p < 0 || p > 200000) {
            return NO;
        }
        return s.signOfSum(-p, q);
    }

    public int quotient(int slope, int i) {
        Slope s = slopeAt(slope);
        if (s == null || i < 0 || i >= s.quotientCount) {
            return NONE;
        }
        return s.quotients[i];
    }

    /**
     * NEARERS are the LINES: the numbers below the line of a slope's fractions are just those at which it comes
     * nearer to a whole number than ever before.
     */
    public int nearer(int slope, int i) {
        int nearest = lineAt(slopeAt(slope), i);
        return nearest <= MOST_MULTIPLE ? nearest : NONE;
    }

    public int within(int slope, int p, int r, int q) {
        Slope s = slopeAt(slope);
        if (s == null || q < 1 || q > 1000 || p < 0 || p > q || r < 0 || r > q || p >= r) {
            return NONE;
        }
        for (int n = 1; n <= MOST_MULTIPLE; n++) {
            // p and r are whole: q times the PART is between them just if its WHOLE is
            long place = Math.floorMod(s.wholeOf((long) q * n, 0, 1), (long) q);
            if (place >= p && place < r) {
                return n;
            }
        }
        return NONE;
    }

    public int digit(int slope, int number, int i) {
        Slope s = slopeAt(slope);
        if (s == null || number < 0 || number > 10000 || i < 0 || i >= s.lineCount) {
            return NONE;
        }
        int left = number;
        for (int higher = s.lineCount - 1; higher > i; higher--) {
            left = Math.floorMod(left, Math.max(1, s.lines[higher]));
        }
        return Math.floorDiv(left, Math.max(1, s.lines[i]));
    }

    public int line(int slope, int i) {
        return lineAt(slopeAt(slope), i);
    }

    private static int lineAt(Slope s, int i) {
        return s == null || i < 0 || i >= s.lineCount ? NONE : s.lines[i];
    }

    public int share(int a, int b) {
        Slope first = slopeAt(a);
        Slope second = slopeAt(b);
        if (first == null || second == null) {
            return NONE;
        }
        return first.sharesWith(second) ? 0 : unshared(first, second);
    }

    private static int unshared(Slope first, Slope second) {
        // a slope of 1/2 or less has two multiples from 1 to below 2; those above tell a number twice at most
        if (first.signOfSum(-1, 2) <= 0 || second.signOfSum(-1, 2) <= 0) {
            return 1;
        }
        int i = 1;
        int j = 1;
        for (int number = 0; number <= MOST_SHARED; number++) {
            int byFirst = tellings(first, i, number);
            int bySecond = tellings(second, j, number);
            if (number > 0 && byFirst + bySecond != 1) {
                return number;
            }
            i += byFirst;
            j += bySecond;
        }
        return -2;
    }

    private static int tellings(Slope s, int from, int number) {
        int told = 0;
        while (told < 2 && s.wholeOf(from + told, 0, 1) == number) {
            told++;
        }
        return told;
    }

    // ---- questions about ROWS ----

    public int kind(int row) {
        Row r = rowAt(row);
        return r == null ? NONE : r.kindNumber();
    }

    public int step(int row, int place) {
        Row r = rowAt(row);
        return r == null ? NONE : r.stepAt(place);
    }

    public int sum(int row, int n) {
        Row r = rowAt(row);
        return r == null || n < 0 || n > LAST_PLACE ? NONE : r.sumOf(n);
    }

    public int isEven(int row, int from, int n) {
        if (!stretch.read(rowAt(row), from, n)) {
            return NONE;
        }
        return stretch.findClash() ? 0 : 1;
    }

    public int clash(int row, int from, int n, int what) {
        if (what < 0 || what > 2 || !stretch.read(rowAt(row), from, n) || !stretch.findClash()) {
            return NONE;
        }
        switch (what) {
            case 0:
                return stretch.clashLength;
            case 1:
                return from + stretch.clashFirst;
            default:
                return from + stretch.clashOther;
        }
    }

    public int range(int row, int from, int n, int what) {
        if (what < 0 || what > 3 || !stretch.read(rowAt(row), from, n) || !stretch.findRange()) {
            return NO;
        }
        int above = what < 2 ? stretch.lowAbove : stretch.highAbove;
        int below = what < 2 ? stretch.lowBelow : stretch.highBelow;
        long common = commonOf(above, below);
        if (common == 0) {
            return NO;
        }
        return (int) ((what == 0 || what == 2 ? above : below) / common);
    }

    public int parts(int row, int length, int what) {
        Row r = rowAt(row);
        if (r == null || length < 1 || length > MOST_PART || what < 0 || what > 1) {
            return NONE;
        }
        int unlike = findUnlike(readPartSteps(r), length);
        if (what == 0) {
            return unlike;
        }
        int alike = 0;
        for (int i = 0; i < unlike; i++) {
            if (readsAlikeBackward(partStarts[i], length)) {
                alike++;
            }
        }
        return alike;
    }

    private int readPartSteps(Row r) {
        for (int place = 0; place < partSteps.length; place++) {
            int step = r.stepAt(place);
            if (step < 0) {
                return place;
            }
            partSteps[place] = step;
        }
        return partSteps.length;
    }

    private int findUnlike(int steps, int length) {
        int unlike = 0;
        for (int from = 0; from < PART_PLACES && from + length <= steps; from++) {
            if (!isAmongParts(from, length, unlike)) {
                partStarts[unlike] = from;
                unlike++;
            }
        }
        return unlike;
    }

    private boolean isAmongParts(int from, int length, int unlike) {
        for (int i = 0; i < unlike; i++) {
            if (readsAlike(from, partStarts[i], length)) {
                return true;
            }
        }
        return false;
    }

    private boolean readsAlike(int one, int other, int length) {
        for (int i = 0; i < length; i++) {
            if (partSteps[one + i] != partSteps[other + i]) {
                return false;
            }
        }
        return true;
    }

    private boolean readsAlikeBackward(int from, int length) {
        for (int i = 0; i < length; i++) {
            if (partSteps[from + i] != partSteps[from + length - 1 - i]) {
                return false;
            }
        }
        return true;
    }

    public int gaps(int row, int n) {
        return layPoints(row, n) ? circle.sorts : NONE;
    }

    public int gap(int row, int n, int i, int what) {
        if (!layPoints(row, n) || i < 0 || i >= circle.sorts) {
            return NO;
        }
        switch (what) {
            case 0:
                return circle.counts[i];
            case 1:
                return circle.wholes[i];
            case 2:
                return circle.times[i];
            default:
                return NO;
        }
    }

    public int follows(int row, int n, int i) {
        if (i < 0 || i >= n || !layPoints(row, n)) {
            return NONE;
        }
        return circle.next[i];
    }

    private boolean layPoints(int row, int n) {
        if (n < 1 || n > MOST_POINTS) {
            return false;
        }
        if (rowAt(row) instanceof Points points && points.slope.hasUnlikePoints(n)) {
            circle.lay(points.slope, n);
            return true;
        }
        return false;
    }

    // ---- SPREAD, turnings, HEAPS ----

    public long spread(int k, int m) {
        if (m < 1 || m > MOST_BITS || k < 0 || k > m) {
            return NONE;
        }
        long first = 1;
        long last = 0;
        int firstLength = 1;
        int lastLength = 1;
        int firsts = k;
        int lasts = m - k;
        for (int round = 0; round < m && firsts >= 1 && lasts >= 2; round++) {
            int pairs = Math.min(firsts, lasts);
            long paired = first | last << firstLength;
            int pairedLength = firstLength + lastLength;
            if (firsts > lasts) {
                last = first;
                lastLength = firstLength;
            }
            lasts = Math.abs(firsts - lasts);
            firsts = pairs;
            first = paired;
            firstLength = pairedLength;
        }
        return repeated(first, firstLength, firsts) | repeated(last, lastLength, lasts) << firstLength * firsts;
    }

    private static long repeated(long bits, int length, int times) {
        long all = 0;
        for (int i = 0; i < times; i++) {
            all |= bits << length * i;
        }
        return all;
    }

    public int turning(long bits, int m) {
        if (m < 1 || m > MOST_BITS) {
            return NONE;
        }
        long mask = (1L << m) - 1;
        long turned = backward(bits, m);
        long least = turned;
        int begins = 0;
        for (int place = 1; place < m; place++) {
            turned = turned << 1 & mask | turned >> m - 1;
            if (turned < least) {
                least = turned;
                begins = place;
            }
        }
        return begins;
    }

    /** The first place becomes the highest bit, so that a lesser number is what reads as less. */
    private static long backward(long bits, int m) {
        long turned = 0;
        for (int i = 0; i < m; i++) {
            turned = turned << 1 | bits >> i & 1;
        }
        return turned;
    }

    public int wins(int a, int b) {
        if (!isHeap(a) || !isHeap(b)) {
            return NONE;
        }
        return lostBeside(a) == b ? 0 : 1;
    }

    public int takes(int a, int b) {
        if (!isHeap(a) || !isHeap(b)) {
            return NONE;
        }
        int ofFirst = a - lostBeside(b);
        if (ofFirst > 0) {
            return 1000000 + ofFirst;
        }
        int ofSecond = b - lostBeside(a);
        if (ofSecond > 0) {
            return 2000000 + ofSecond;
        }
        int ofBoth = Math.min(a, b) - goldenWhole(Math.abs(a - b));
        return ofBoth > 0 ? 3000000 + ofBoth : NONE;
    }

    private static boolean isHeap(int heap) {
        return heap >= 0 && heap <= MOST_HEAP;
    }

    /** WHOLE of k times the golden number: the lesser heap of the lost pair whose heaps differ by k. */
    private static int goldenWhole(int k) {
        return (int) ((k + rootOf(5L * k * k)) / 2);
    }

    /** The heap that makes a lost pair with this one: each heap stands in one pair alone. */
    private static int lostBeside(int heap) {
        if (heap == 0) {
            return 0;
        }
        // so many lesser heaps, 0 left out, lie below this one: if it is one itself, it is the next of them
        int lesser = (int) ((rootOf(5L * heap * heap) - heap) / 2);
        return goldenWhole(lesser + 1) == heap ? heap + lesser + 1 : lesser;
    }

    // ---- ACTS ----

    public int act(int row, int act, int x) {
        Row r = rowAt(row);
        if (r == null || act < 0 || act > 3) {
            return refuse(OUTSIDE);
        }
        bodies.size = 0;
        switch (act) {
            case 0:
                return done(r.doGo(x, bodies));
            case 1:
                return done(r.doGap(x, bodies));
            case 2:
                return done(r.doGrow(x, bodies));
            default:
                return done(r.doTell(x, bodies));
        }
    }

    public int trace(int i) {
        return i < 0 || i >= bodies.size ? NONE : bodies.numbers[i];
    }

    // ---- SHEETS and what the host does ----

    public int sheet(int sheet, int sort, int n) {
        if (sheet < 0 || sheet >= MOST_SHEETS || sort < -1 || sort > 2) {
            return refuse(OUTSIDE);
        }
        if (sort == -1) {
            sheets[sheet].begin(-1, 0);
            return done(1);
        }
        if (n < 0 || n > MOST_TOLD) {
            return refuse(OUTSIDE);
        }
        sheets[sheet].begin(sort, n);
        return done(1);
    }

    public int cell(int sheet, int i, int v) {
        if (sheet < 0 || sheet >= MOST_SHEETS || v < -100 || v > 100) {
            return refuse(OUTSIDE);
        }
        Sheet on = sheets[sheet];
        if (on.isMissing()) {
            return refuse(NOTHING);
        }
        if (i < 0 || i >= on.size) {
            return refuse(NO_PLACE);
        }
        on.numbers[i] = v;
        return done(1);
    }

    public int forge(int what, int n, int k) {
        if (n < -100 || n > 100 || k < -100 || k > 100) {
            return refuse(OUTSIDE);
        }
        switch (what) {
            case 0:
                return forgeKind(rowAt(Math.floorMod(k, MOST_ROWS)), Math.floorMod(n, 5));
            case 1:
                return n < 0 ? refuse(BELOW_ZERO) : done(n);
            case 2:
                return forgeNumber(sheets[Math.floorMod(k, MOST_SHEETS)], n);
            case 3:
                return forgeCopy(sheets[Math.floorMod(k, MOST_SHEETS)], n);
            case 4:
                return forgePut(rowAt(Math.floorMod(k, MOST_ROWS)));
            case 5:
                return n == 0 ? refuse(BY_ZERO) : done(1000 / n);
            case 6:
                return Math.floorMod(n, 2) == 0 ? refuse(NOTHING) : done(1);
            default:
                return refuse(OUTSIDE);
        }
    }

    private int forgeKind(Row r, int kind) {
        if (r == null) {
            return refuse(NOTHING);
        }
        return isOfKind(r, kind) ? done(r.kindNumber()) : refuse(OTHER_SORT);
    }

    private static boolean isOfKind(Row r, int kind) {
        switch (kind) {
            case 0:
                return true;
            case 1:
                return r instanceof Even;
            case 2:
                return r instanceof Ring;
            case 3:
                return r instanceof Cut;
            default:
                return r instanceof Points;
        }
    }

    private int forgeNumber(Sheet of, int i) {
        if (of.isMissing()) {
            return refuse(NOTHING);
        }
        if (of.sort != 1) {
            return refuse(OTHER_SORT);
        }
        return i < 0 || i >= of.size ? refuse(NO_PLACE) : done(of.numbers[i]);
    }

    private int forgeCopy(Sheet of, int n) {
        if (of.isMissing()) {
            return refuse(NOTHING);
        }
        if (of.sort != 0) {
            return refuse(OTHER_SORT);
        }
        if (n < 0 || 1 + n > of.size || n + n > FORGED_ROW) {
            return refuse(NO_PLACE);
        }
        int sum = 0;
        for (int i = 1; i <= n; i++) {
            sum += of.numbers[i];
        }
        return done(sum);
    }

    private int forgePut(Row r) {
        if (r == null) {
            return done(0);
        }
        return r instanceof Even ? done(r.kindNumber()) : refuse(NO_FIT);
    }

    public int status() {
        return latestStatus;
    }

    // ---- what the calls have in common ----

    private int refuse(int why) {
        latestStatus = why;
        return NONE;
    }

    private int done(int answer) {
        latestStatus = DONE;
        return answer;
    }

    private int keep(Row made) {
        made.second = Math.max(0, made.stepAt(1));
        rows[rowCount] = made;
        rowCount++;
        return done(made.number);
    }

    private Slope slopeAt(int number) {
        return number < 0 || number >= slopeCount ? null : slopes[number];
    }

    private Row rowAt(int number) {
        return number < 0 || number >= rowCount ? null : rows[number];
    }

    private static boolean isBits(int bits, int length) {
        return length >= 1 && length <= 6 && bits >= 0 && bits < 1 << length;
    }

    private static boolean isSquare(int d) {
        long root = rootOf(d);
        return root * root == d;
    }

    /** WHOLE of the root of n (n below 2 to the 62nd; 0 for what is below 0). */
    private static long rootOf(long n) {
        if (n < 1) {
            return 0;
        }
        long root = 1L << (65 - Long.numberOfLeadingZeros(n)) / 2;
        // it begins above the root and falls to its WHOLE, the nearer the faster: some six rounds
        for (int round = 0; round < 64; round++) {
            long better = (root + n / root) / 2;
            if (better >= root || better < 1) {
                return root;
            }
            root = better;
        }
        return root;
    }

    /** Whether x + y times the root of d is below (-1), is (0) or is above (1) 0; d matters only if y is not 0. */
    private static int signOf(long x, long y, long d) {
        int ofX = x > 0 ? 1 : x < 0 ? -1 : 0;
        int ofY = y > 0 ? 1 : y < 0 ? -1 : 0;
        if (ofX * ofY >= 0) {
            return ofX != 0 ? ofX : ofY;
        }
        long difference = x * x - y * y * d;
        return difference > 0 ? ofX : difference < 0 ? ofY : 0;
    }

    /** The greatest number that divides both; 0 only for 0 and 0. */
    private static long commonOf(long a, long b) {
        long one = Math.abs(a);
        long other = Math.abs(b);
        for (int round = 0; round < 100 && other != 0; round++) {
            long left = one % other;
            one = other;
            other = left;
        }
        return one;
    }

    /** (a + b times the root of d) / c, with a d that no square divides and in lowest terms. */
    static final class Slope {
        final int[] quotients = new int[MOST_QUOTIENTS];
        final int quotientCount;
        final int[] lines = new int[MOST_QUOTIENTS];
        final int lineCount;
        private final long a;
        private final long b;
        private final long c;
        private final long d;

        /** c is above 0; d is no square and above 0 if b is not 0. */
        Slope(long a, long b, long c, long d) {
            // the same root is told by one d alone: 2 times the root of 2 is the root of 8
            long times = b == 0 ? 1 : squareIn(d);
            long common = Math.max(1, commonOf(commonOf(a, b * times), c));
            this.a = a / common;
            this.b = b * times / common;
            this.c = c / common;
            this.d = b == 0 ? 2 : d / (times * times);
            quotientCount = b == 0 ? findQuotients(this.a, this.c, quotients)
                    : findRootQuotients(this.a, this.b, this.c, this.d, quotients);
            lineCount = findLines(quotients, quotientCount, lines);
        }

        /** The greatest number (of 1 to 7) whose square divides d. */
        private static long squareIn(long d) {
            for (long times = 7; times > 1; times--) {
                if (d % (times * times) == 0) {
                    return times;
                }
            }
            return 1;
        }

        private static int findQuotients(long above, long below, int[] quotients) {
            int count = 0;
            long over = above;
            long under = below;
            while (count < quotients.length && under > 0) {
                long whole = Math.floorDiv(over, under);
                quotients[count] = (int) whole;
                count++;
                long left = over - whole * under;
                over = under;
                under = left;
            }
            return count;
        }

        /**
         * Each number on the way is (p + the root of n) / q with the one n; q divides n - p * p at first, since all
         * is made c times larger, and then stays so.
         */
        private static int findRootQuotients(long a, long b, long c, long d, int[] quotients) {
            long n = b * b * d * c * c;
            long root = rootOf(n);
            long p = b > 0 ? a * c : -a * c;
            long q = b > 0 ? c * c : -c * c;
            int count = 0;
            while (count < quotients.length && q != 0) {
                long whole = q > 0 ? Math.floorDiv(p + root, q) : Math.floorDiv(-p - root - 1, -q);
                quotients[count] = (int) whole;
                count++;
                p = whole * q - p;
                q = (n - p * p) / q;
            }
            return count;
        }

        private static int findLines(int[] quotients, int quotientCount, int[] lines) {
            long before = 0;
            long line = 1;
            lines[0] = 1;
            int count = 1;
            for (int i = 1; i < quotientCount && count < lines.length; i++) {
                long next = quotients[i] * line + before;
                before = line;
                line = next;
                if (line > MOST_LINE) {
                    return count;
                }
                if (line > 1) {
                    lines[count] = (int) line;
                    count++;
                }
            }
            return count;
        }

        /** WHOLE of n times the slope and u / v more; n * v up to 2,000,000. */
        long wholeOf(long n, long u, long v) {
            long roots = v * n * b;
            long root = rootOf(roots * roots * d);
            long above = v * n * a + u * c + (roots < 0 ? -root - 1 : root);
            long below = c * v;
            return below < 1 ? 0 : Math.floorDiv(above, below);
        }

        /** The sign of x + y times the slope. */
        int signOfSum(long x, long y) {
            return signOf(x * c + y * a, y * b, d);
        }

        /** The multiples of two slopes share out all numbers just if both have a root and (s - 1) (t - 1) is 1. */
        boolean sharesWith(Slope other) {
            if (b == 0 || other.b == 0 || d != other.d) {
                return false;
            }
            long x = a - c;
            long y = other.a - other.c;
            return x * y + b * other.b * d == c * other.c && x * other.b + y * b == 0;
        }

        boolean hasUnlikePoints(int n) {
            return b != 0 || n <= c;
        }
    }

    /** What the ROWS of all KINDS have in common, and the bodies of ROW. */
    abstract static class Row {
        final int number;
        /** The STEP at 1, or 0: kept, since the ACTS ask for it. */
        int second;

        Row(int number) {
            this.number = number;
        }

        abstract int kindNumber();

        /** The STEP at a place, NONE if it lacks. */
        abstract int stepAt(int place);

        /** SUM of n from 0 to LAST_PLACE, NONE if a STEP lacks. */
        abstract int sumOf(int n);

        int doGo(int x, Trace bodies) {
            bodies.add(10);
            return x + second;
        }

        int doGap(int x, Trace bodies) {
            bodies.add(11);
            return doGo(x, bodies) * 3;
        }

        int doGrow(int x, Trace bodies) {
            bodies.add(12);
            return x - number;
        }

        int doTell(int x, Trace bodies) {
            bodies.add(13);
            return doGap(x, bodies) ^ doGrow(x, bodies);
        }
    }

    /** KIND 0. */
    static final class Told extends Row {
        private final int[] steps;

        Told(int number, int[] steps) {
            super(number);
            this.steps = steps;
        }

        int kindNumber() {
            return 0;
        }

        int stepAt(int place) {
            return place < 0 || place >= steps.length ? NONE : steps[place];
        }

        int sumOf(int n) {
            if (n > steps.length) {
                return NONE;
            }
            int sum = 0;
            for (int i = 0; i < n; i++) {
                sum += steps[i];
            }
            return sum;
        }
    }

    /** KIND 1. */
    static class Even extends Row {
        final Slope slope;
        /** NONE if it is not made of one of the numbered SLOPES. */
        final int slopeNumber;
        private final int u;
        private final int v;

        Even(int number, Slope slope, int slopeNumber, int u, int v) {
            super(number);
            this.slope = slope;
            this.slopeNumber = slopeNumber;
            this.u = u;
            this.v = v;
        }

        int kindNumber() {
            return 1;
        }

        int stepAt(int place) {
            if (place < 0 || place > LAST_PLACE) {
                return NONE;
            }
            return (int) (slope.wholeOf(place + 1, u, v) - slope.wholeOf(place, u, v));
        }

        int sumOf(int n) {
            // the SHIFT is below 1, so that there is nothing to take away for place 0
            return (int) slope.wholeOf(n, u, v);
        }

        int doGo(int x, Trace bodies) {
            bodies.add(20);
            return super.doGo(x, bodies) * 2;
        }

        int doGrow(int x, Trace bodies) {
            bodies.add(21);
            return super.doGrow(x, bodies) + 7;
        }
    }

    /** KIND 2. */
    static final class Ring extends Even {
        Ring(int number, int k, int m) {
            super(number, new Slope(k, 0, m, 2), NONE, 0, 1);
        }

        int kindNumber() {
            return 2;
        }

        int doGap(int x, Trace bodies) {
            bodies.add(30);
            return super.doGap(x + 1, bodies);
        }

        int doTell(int x, Trace bodies) {
            bodies.add(31);
            return super.doTell(x, bodies) - doGrow(x, bodies);
        }
    }

    /** KIND 3: its STEPS are kept as bits, as far as they have been asked for. */
    static final class Cut extends Row {
        /** A ROW with a lower number: there are ten ROWS, so a chain of sources is at most nine long. */
        private final Row source;
        private final int zero;
        private final int zeros;
        private final int one;
        private final int ones;
        private final long[] steps = new long[LAST_PLACE / 64 + 2];
        private int known;
        private int taken;
        private boolean ended;

        Cut(int number, Row source, int zero, int zeros, int one, int ones) {
            super(number);
            this.source = source;
            this.zero = zero;
            this.zeros = zeros;
            this.one = one;
            this.ones = ones;
        }

        int kindNumber() {
            return 3;
        }

        int stepAt(int place) {
            if (place < 0 || place > LAST_PLACE) {
                return NONE;
            }
            learn(place + 1);
            return place < known ? (int) (steps[place >> 6] >> (place & 63)) & 1 : NONE;
        }

        int sumOf(int n) {
            learn(n);
            if (n > known) {
                return NONE;
            }
            int sum = 0;
            for (int i = 0; i < n >> 6; i++) {
                sum += Long.bitCount(steps[i]);
            }
            return sum + Long.bitCount(steps[n >> 6] & (1L << (n & 63)) - 1);
        }

        /** Takes STEPS of the source, each of which brings 1 or more, until n are known. */
        private void learn(int n) {
            for (int round = 0; round <= LAST_PLACE && known < n && !ended; round++) {
                int step = source.stepAt(taken);
                taken++;
                if (step == 0) {
                    put(zero, zeros);
                } else if (step == 1) {
                    put(one, ones);
                } else {
                    ended = true;
                }
            }
        }

        private void put(int bits, int length) {
            for (int i = 0; i < length && known >> 6 < steps.length; i++) {
                steps[known >> 6] |= (long) (bits >> i & 1) << (known & 63);
                known++;
            }
        }

        int doGo(int x, Trace bodies) {
            bodies.add(40);
            return super.doGo(x - second, bodies);
        }

        int doGrow(int x, Trace bodies) {
            bodies.add(41);
            return super.doGrow(x, bodies) * 5;
        }
    }

    /** KIND 4. */
    static final class Points extends Even {
        Points(int number, Slope slope, int slopeNumber) {
            super(number, slope, slopeNumber, 0, 1);
        }

        int kindNumber() {
            return 4;
        }

        int doGrow(int x, Trace bodies) {
            bodies.add(50);
            return super.doGrow(x, bodies) ^ 9;
        }

        int doGap(int x, Trace bodies) {
            bodies.add(51);
            return super.doGap(x, bodies) + super.doGo(x, bodies);
        }
    }

    /** THE TRACE. */
    static final class Trace {
        final int[] numbers = new int[50];
        int size;

        void add(int body) {
            if (size >= 0 && size < numbers.length) {
                numbers[size] = body;
                size++;
            }
        }
    }

    /** A SHEET: the answers do not tell in what sort of array the numbers stand, so that one sort serves. */
    static final class Sheet {
        final int[] numbers = new int[MOST_TOLD];
        int sort = -1;
        int size;

        boolean isMissing() {
            return sort < 0;
        }

        void begin(int newSort, int newSize) {
            sort = newSort;
            size = newSize;
            for (int i = 0; i < numbers.length; i++) {
                numbers[i] = 0;
            }
        }

        boolean tellsSteps(int n) {
            for (int i = 0; i < n && i < numbers.length; i++) {
                if (numbers[i] < 0 || numbers[i] > 100) {
                    return false;
                }
            }
            return true;
        }

        int[] copyOf(int n) {
            int[] copy = new int[Math.max(0, n)];
            for (int i = 0; i < n && i < numbers.length; i++) {
                copy[i] = numbers[i];
            }
            return copy;
        }
    }

    /** The STRETCH that is being asked about. */
    static final class Stretch {
        int clashLength;
        int clashFirst;
        int clashOther;
        int lowAbove;
        int lowBelow;
        int highAbove;
        int highBelow;
        private final int[] sums = new int[MOST_TOLD + 1];
        private int size;
        private int least;
        private int most;

        /** Whether there is such a STRETCH; the row may be null. */
        boolean read(Row row, int from, int n) {
            if (row == null || from < 0 || from > LAST_PLACE || n < 1 || n > MOST_TOLD) {
                return false;
            }
            size = n;
            for (int i = 0; i < n; i++) {
                int step = row.stepAt(from + i);
                if (step < 0) {
                    return false;
                }
                sums[i + 1] = sums[i] + step;
            }
            return true;
        }

        private int sumFrom(int begin, int length) {
            return sums[begin + length] - sums[begin];
        }

        private void compareSums(int length) {
            least = sumFrom(0, length);
            most = least;
            for (int i = 1; i + length <= size; i++) {
                int sum = sumFrom(i, length);
                least = Math.min(least, sum);
                most = Math.max(most, sum);
            }
        }

        boolean findClash() {
            for (int length = 1; length <= size; length++) {
                compareSums(length);
                if (most - least > 1) {
                    clashLength = length;
                    return findClashPlaces(length);
                }
            }
            return false;
        }

        private boolean findClashPlaces(int length) {
            for (int first = 0; first + length <= size; first++) {
                for (int other = first + 1; other + length <= size; other++) {
                    if (Math.abs(sumFrom(first, length) - sumFrom(other, length)) > 1) {
                        clashFirst = first;
                        clashOther = other;
                        return true;
                    }
                }
            }
            return false;
        }

        /**
         * Some t fits just if each sum S of a length L has (S - 1) / L below s and (S + 1) / L above it: two whole
         * numbers of s i + t that are L apart differ by less than 1 from s L.
         */
        boolean findRange() {
            for (int length = 1; length <= size; length++) {
                compareSums(length);
                if (length == 1 || (most - 1) * lowBelow > lowAbove * length) {
                    lowAbove = most - 1;
                    lowBelow = length;
                }
                if (length == 1 || (least + 1) * highBelow < highAbove * length) {
                    highAbove = least + 1;
                    highBelow = length;
                }
            }
            return lowAbove * highBelow < highAbove * lowBelow;
        }
    }

    /** The first POINTS of a SLOPE on the ring, and the sorts of the GAPS, the greatest first. */
    static final class Circle {
        final int[] next = new int[MOST_POINTS];
        final int[] counts = new int[MOST_POINTS];
        final int[] wholes = new int[MOST_POINTS];
        final int[] times = new int[MOST_POINTS];
        int sorts;
        private final int[] order = new int[MOST_POINTS];
        private final int[] turns = new int[MOST_POINTS];
        private Slope slope;

        /** n from 1 to MOST_POINTS. */
        void lay(Slope of, int n) {
            slope = of;
            for (int i = 0; i < n; i++) {
                turns[i] = (int) of.wholeOf(i, 0, 1);
                place(i);
            }
            for (int i = 0; i < n; i++) {
                next[order[i]] = order[i + 1 < n ? i + 1 : 0];
            }
            int last = order[n - 1];
            sorts = 0;
            for (int i = 0; i < n; i++) {
                addGap(turns[i] - turns[next[i]] + (i == last ? 1 : 0), next[i] - i);
            }
        }

        /** Puts point i among those ahead of it, which stand in order. */
        private void place(int i) {
            int at = i;
            while (at > 0 && isAhead(i, order[at - 1])) {
                order[at] = order[at - 1];
                at--;
            }
            order[at] = i;
        }

        private boolean isAhead(int i, int other) {
            return slope.signOfSum(turns[other] - turns[i], i - other) < 0;
        }

        private void addGap(int whole, int time) {
            int at = 0;
            while (at < sorts && signBeside(at, whole, time) < 0) {
                at++;
            }
            if (at < sorts && signBeside(at, whole, time) == 0) {
                counts[at]++;
            } else if (sorts < MOST_POINTS) {
                insertSort(at, whole, time);
            }
        }

        /** Whether a gap is less than (-1), is as long as (0) or is more than (1) those of a sort. */
        private int signBeside(int sort, int whole, int time) {
            return slope.signOfSum(whole - wholes[sort], time - times[sort]);
        }

        private void insertSort(int at, int whole, int time) {
            for (int i = sorts; i > at; i--) {
                counts[i] = counts[i - 1];
                wholes[i] = wholes[i - 1];
                times[i] = times[i - 1];
            }
            counts[at] = 1;
            wholes[at] = whole;
            times[at] = time;
            sorts++;
        }
    }
}
