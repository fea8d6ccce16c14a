import java.math.BigDecimal;
import java.math.BigInteger;
import java.math.MathContext;
import java.math.RoundingMode;
import java.util.ArrayList;
import java.util.Collections;
import java.util.List;
import java.util.TreeSet;

/**
 * The document once more, as near to its words as can be and with other means than the class: long decimals in place
 * of exact roots, and search in place of formulas. Numbers here that differ do so by far more than TINY.
 */
final class PlainSteps {
    static final int NONE = -1, NO = -1000000;
    private static final MathContext LONG = new MathContext(400);
    private static final MathContext SHORT = new MathContext(70);
    private static final BigDecimal TINY = new BigDecimal("1e-45");
    private static final BigDecimal TINIEST = new BigDecimal("1e-150");
    private static final String[] KINDS = {"ROW", "EVEN", "RING", "CUT", "POINTS"};
    private static final int[] ABOVE = {-1, 0, 1, 0, 1};
    private static final boolean[][] WON = heaps();

    private static final class Slope {
        BigDecimal exact;
        BigDecimal value;
        boolean fraction;
        int below;
    }

    private static final class Row {
        int kind;
        int number;
        int[] told;
        Slope slope;
        boolean numbered;
        BigDecimal shift;
        Row source;
        int[] zero;
        int[] one;
    }

    private final List<Slope> slopes = new ArrayList<>();
    private final List<Row> rows = new ArrayList<>();
    private final int[] sorts = {-1, -1, -1, -1};
    private final int[][] sheets = new int[4][];
    private List<Integer> trace = new ArrayList<>();
    private int status;

    // ---- numbers ----

    private static int compare(BigDecimal x, BigDecimal y) {
        return x.subtract(y).abs().compareTo(TINY) < 0 ? 0 : x.compareTo(y);
    }

    private static BigInteger floor(BigDecimal x, BigDecimal tiny) {
        BigInteger near = x.setScale(0, RoundingMode.HALF_EVEN).toBigInteger();
        if (x.subtract(new BigDecimal(near)).abs().compareTo(tiny) < 0) {
            return near;
        }
        return x.setScale(0, RoundingMode.FLOOR).toBigInteger();
    }

    private static int whole(BigDecimal x) {
        return floor(x, TINY).intValueExact();
    }

    private static BigDecimal part(BigDecimal x) {
        return x.subtract(BigDecimal.valueOf(whole(x)));
    }

    private static BigDecimal of(long n) {
        return BigDecimal.valueOf(n);
    }

    private static BigDecimal ratio(long p, long q) {
        return of(p).divide(of(q), SHORT);
    }

    private int fail(int why) {
        status = why;
        return -1;
    }

    private int good(int answer) {
        status = 0;
        return answer;
    }

    private static boolean in(int x, int low, int high) {
        return x >= low && x <= high;
    }

    private boolean isSlope(int s) {
        return in(s, 0, slopes.size() - 1);
    }

    private boolean isRow(int r) {
        return in(r, 0, rows.size() - 1);
    }

    // ---- made and dropped ----

    int slope(int a, int b, int c, int d) {
        if (!in(a, -1000, 1000) || !in(b, -20, 20) || !in(c, 1, 100)) {
            return fail(1);
        }
        if (b != 0 && (!in(d, 2, 50) || List.of(4, 9, 16, 25, 36, 49).contains(d))) {
            return fail(1);
        }
        if (slopes.size() == 8) {
            return fail(2);
        }
        BigDecimal root = b == 0 ? BigDecimal.ZERO : of(d).sqrt(LONG);
        Slope s = new Slope();
        s.exact = of(a).add(of(b).multiply(root, LONG), LONG).divide(of(c), LONG);
        s.value = s.exact.round(SHORT);
        s.fraction = b == 0;
        s.below = c / of(a).toBigInteger().gcd(BigInteger.valueOf(c)).intValue();
        if (compare(s.value, of(0)) <= 0 || compare(s.value, of(20)) > 0) {
            return fail(3);
        }
        slopes.add(s);
        return good(slopes.size() - 1);
    }

    private int add(Row row, int kind) {
        row.kind = kind;
        row.number = rows.size();
        rows.add(row);
        return good(row.number);
    }

    int row(int sheet, int sort, int n) {
        if (!in(sheet, 0, 3) || !in(sort, 0, 2) || !in(n, 1, 40)) {
            return fail(1);
        }
        if (rows.size() == 10) {
            return fail(2);
        }
        if (sheets[sheet] == null) {
            return fail(10);
        }
        if (sorts[sheet] != sort) {
            return fail(11);
        }
        if (n > sheets[sheet].length) {
            return fail(12);
        }
        Row row = new Row();
        row.told = new int[n];
        for (int i = 0; i < n; i++) {
            row.told[i] = sheets[sheet][i];
            if (!in(row.told[i], 0, 100)) {
                return fail(3);
            }
        }
        return add(row, 0);
    }

    int even(int slope, int u, int v) {
        if (!isSlope(slope) || !in(v, 1, 100) || !in(u, 0, v - 1)) {
            return fail(1);
        }
        if (rows.size() == 10) {
            return fail(2);
        }
        Row row = new Row();
        row.slope = slopes.get(slope);
        row.numbered = true;
        row.shift = ratio(u, v);
        return add(row, 1);
    }

    int ring(int k, int m) {
        if (!in(m, 1, 60) || !in(k, 1, m)) {
            return fail(1);
        }
        if (rows.size() == 10) {
            return fail(2);
        }
        Row row = new Row();
        row.slope = new Slope();
        row.slope.value = ratio(k, m);
        row.shift = of(0);
        return add(row, 2);
    }

    int cut(int row, int zero, int zeros, int one, int ones) {
        if (!isRow(row) || !in(zeros, 1, 6) || !in(ones, 1, 6)) {
            return fail(1);
        }
        if (zero < 0 || zero >> zeros != 0 || one < 0 || one >> ones != 0) {
            return fail(1);
        }
        if (rows.size() == 10) {
            return fail(2);
        }
        Row made = new Row();
        made.source = rows.get(row);
        made.zero = bitsOf(zero, zeros);
        made.one = bitsOf(one, ones);
        return add(made, 3);
    }

    private static int[] bitsOf(long bits, int n) {
        int[] all = new int[n];
        for (int i = 0; i < n; i++) {
            all[i] = BigInteger.valueOf(bits).testBit(i) ? 1 : 0;
        }
        return all;
    }

    int points(int slope) {
        if (!isSlope(slope)) {
            return fail(1);
        }
        int made = even(slope, 0, 1);
        if (made >= 0) {
            rows.get(made).kind = 4;
        }
        return made;
    }

    int drop(int what) {
        if (!in(what, 0, 1)) {
            return fail(1);
        }
        if (what == 0) {
            return rows.isEmpty() ? fail(3) : good(rows.remove(rows.size() - 1).number);
        }
        if (slopes.isEmpty()) {
            return fail(3);
        }
        Slope last = slopes.get(slopes.size() - 1);
        for (Row row : rows) {
            if (row.numbered && row.slope == last) {
                return fail(3);
            }
        }
        slopes.remove(slopes.size() - 1);
        return good(slopes.size());
    }

    int count(int what) {
        return what == 0 ? slopes.size() : what == 1 ? rows.size() : what == 2 ? trace.size() : -1;
    }

    // ---- questions about SLOPES ----

    private static BigDecimal times(Slope s, long n) {
        return s.value.multiply(of(n));
    }

    int whole(int slope, int n) {
        return isSlope(slope) && in(n, 0, 100000) ? whole(times(slopes.get(slope), n)) : -1;
    }

    int against(int slope, int p, int q) {
        if (!isSlope(slope) || !in(q, 1, 10000) || !in(p, 0, 200000)) {
            return NO;
        }
        return Integer.signum(compare(times(slopes.get(slope), q), of(p)));
    }

    private static List<Integer> quotients(Slope s) {
        List<Integer> all = new ArrayList<>();
        BigDecimal x = s.exact;
        while (all.size() < 20) {
            BigInteger whole = floor(x, TINIEST);
            all.add(whole.intValueExact());
            x = x.subtract(new BigDecimal(whole));
            if (x.abs().compareTo(TINIEST) < 0) {
                break;
            }
            x = BigDecimal.ONE.divide(x, LONG);
        }
        return all;
    }

    private static int at(List<Integer> list, int i) {
        return in(i, 0, list.size() - 1) ? list.get(i) : -1;
    }

    int quotient(int slope, int i) {
        return isSlope(slope) ? at(quotients(slopes.get(slope)), i) : -1;
    }

    int nearer(int slope, int i) {
        if (!isSlope(slope)) {
            return -1;
        }
        List<Integer> found = new ArrayList<>();
        BigDecimal nearest = of(2);
        for (int n = 1; n <= 2000; n++) {
            BigDecimal part = part(times(slopes.get(slope), n));
            BigDecimal far = part.min(of(1).subtract(part));
            if (compare(far, nearest) < 0) {
                nearest = far;
                found.add(n);
            }
        }
        return at(found, i);
    }

    int within(int slope, int p, int r, int q) {
        if (!isSlope(slope) || !in(q, 1, 1000) || !in(p, 0, q) || !in(r, 0, q)) {
            return -1;
        }
        for (int n = 1; n <= 2000; n++) {
            BigDecimal part = part(times(slopes.get(slope), n)).multiply(of(q));
            if (compare(part, of(p)) >= 0 && compare(part, of(r)) < 0) {
                return n;
            }
        }
        return -1;
    }

    /** Below the line of the fraction that the first QUOTIENTS make, worked out from the last one back. */
    private static List<Integer> lines(Slope s) {
        List<Integer> quotients = quotients(s);
        TreeSet<Integer> all = new TreeSet<>();
        for (int n = 1; n <= quotients.size(); n++) {
            BigInteger above = BigInteger.valueOf(quotients.get(n - 1));
            BigInteger below = BigInteger.ONE;
            for (int i = n - 2; i >= 0; i--) {
                BigInteger next = above.multiply(BigInteger.valueOf(quotients.get(i))).add(below);
                below = above;
                above = next;
            }
            if (below.compareTo(BigInteger.valueOf(10000)) <= 0) {
                all.add(below.intValueExact());
            }
        }
        return new ArrayList<>(all);
    }

    int digit(int slope, int number, int i) {
        if (!isSlope(slope) || !in(number, 0, 10000)) {
            return -1;
        }
        List<Integer> lines = lines(slopes.get(slope));
        List<Integer> digits = new ArrayList<>(lines);
        int left = number;
        for (int at = lines.size() - 1; at >= 0; at--) {
            int times = 0;
            while (left >= lines.get(at)) {
                left -= lines.get(at);
                times++;
            }
            digits.set(at, times);
        }
        return at(digits, i);
    }

    int line(int slope, int i) {
        return isSlope(slope) ? at(lines(slopes.get(slope)), i) : -1;
    }

    int share(int a, int b) {
        if (!isSlope(a) || !isSlope(b)) {
            return -1;
        }
        Slope first = slopes.get(a);
        Slope second = slopes.get(b);
        BigDecimal sum = of(1).divide(first.exact, LONG).add(of(1).divide(second.exact, LONG));
        if (!first.fraction && !second.fraction && sum.subtract(of(1)).abs().compareTo(TINIEST) < 0) {
            return 0;
        }
        // the least number is mostly a low one, and a low limit spares time
        for (int limit : new int[] {1, 30, 5000}) {
            int found = unshared(first, second, limit);
            if (found != -2) {
                return found;
            }
        }
        return -2;
    }

    private static int unshared(Slope first, Slope second, int limit) {
        int[] told = new int[limit + 1];
        for (Slope s : List.of(first, second)) {
            int number = whole(s.value);
            for (int n = 2; number <= limit; n++) {
                told[number]++;
                number = whole(times(s, n));
            }
        }
        for (int number = 1; number <= limit; number++) {
            if (told[number] != 1) {
                return number;
            }
        }
        return -2;
    }

    // ---- questions about ROWS ----

    /** The first n STEPS, or as many as there are. */
    private static List<Integer> steps(Row row, int from, int n) {
        List<Integer> all = new ArrayList<>();
        if (row.kind == 0) {
            for (int i = from; i < from + n && i < row.told.length; i++) {
                all.add(row.told[i]);
            }
        } else if (row.kind == 3) {
            List<Integer> whole = new ArrayList<>();
            for (int step : steps(row.source, 0, from + n)) {
                if (step > 1) {
                    break;
                }
                for (int bit : step == 0 ? row.zero : row.one) {
                    whole.add(bit);
                }
            }
            for (int i = from; i < from + n && i < whole.size() && i <= 10000; i++) {
                all.add(whole.get(i));
            }
        } else {
            for (int i = from; i < from + n && i <= 10000; i++) {
                int next = whole(times(row.slope, i + 1).add(row.shift));
                all.add(next - whole(times(row.slope, i).add(row.shift)));
            }
        }
        return all;
    }

    int kind(int row) {
        return isRow(row) ? rows.get(row).kind : -1;
    }

    int step(int row, int place) {
        if (!isRow(row) || !in(place, 0, 10000)) {
            return -1;
        }
        return at(steps(rows.get(row), place, 1), 0);
    }

    int sum(int row, int n) {
        if (!isRow(row) || !in(n, 0, 10000)) {
            return -1;
        }
        List<Integer> steps = steps(rows.get(row), 0, n);
        return steps.size() < n ? -1 : sumOf(steps, 0, n);
    }

    private static int sumOf(List<Integer> steps, int from, int to) {
        int sum = 0;
        for (int i = from; i < to; i++) {
            sum += steps.get(i);
        }
        return sum;
    }

    private List<Integer> stretch(int row, int from, int n) {
        if (!isRow(row) || !in(from, 0, 10000) || !in(n, 1, 40)) {
            return null;
        }
        List<Integer> steps = steps(rows.get(row), from, n);
        return steps.size() < n ? null : steps;
    }

    private static int[] clashOf(List<Integer> steps) {
        for (int length = 1; length <= steps.size(); length++) {
            for (int i = 0; i + length <= steps.size(); i++) {
                for (int j = i; j + length <= steps.size(); j++) {
                    if (Math.abs(sumOf(steps, i, i + length) - sumOf(steps, j, j + length)) > 1) {
                        return new int[] {length, i, j};
                    }
                }
            }
        }
        return null;
    }

    int isEven(int row, int from, int n) {
        List<Integer> steps = stretch(row, from, n);
        return steps == null ? -1 : clashOf(steps) == null ? 1 : 0;
    }

    int clash(int row, int from, int n, int what) {
        List<Integer> steps = stretch(row, from, n);
        int[] clash = steps == null ? null : clashOf(steps);
        if (clash == null || !in(what, 0, 2)) {
            return -1;
        }
        return what == 0 ? clash[0] : from + clash[what];
    }

    /** s (j - i) is below P(j) - P(i) + 1 for all i and j, where P are the sums: each of these is a bound of s. */
    int range(int row, int from, int n, int what) {
        List<Integer> steps = stretch(row, from, n);
        if (steps == null || !in(what, 0, 3)) {
            return NO;
        }
        int[] low = {-1000, 1};
        int[] high = {1000, 1};
        for (int i = 0; i <= n; i++) {
            for (int j = 0; j <= n; j++) {
                int length = j - i;
                int sum = sumOf(steps, 0, j) - sumOf(steps, 0, i) + 1;
                if (length > 0 && ratio(sum, length).compareTo(ratio(high[0], high[1])) < 0) {
                    high = new int[] {sum, length};
                }
                if (length < 0 && ratio(sum, length).compareTo(ratio(low[0], low[1])) > 0) {
                    low = new int[] {-sum, -length};
                }
            }
        }
        if (compare(ratio(low[0], low[1]), ratio(high[0], high[1])) >= 0) {
            return NO;
        }
        int[] of = what < 2 ? low : high;
        int common = BigInteger.valueOf(of[0]).gcd(BigInteger.valueOf(of[1])).intValue();
        return of[what % 2] / common;
    }

    int parts(int row, int length, int what) {
        if (!isRow(row) || !in(length, 1, 12) || !in(what, 0, 1)) {
            return -1;
        }
        List<Integer> steps = steps(rows.get(row), 0, 199 + length);
        TreeSet<String> unlike = new TreeSet<>();
        TreeSet<String> alikeBackward = new TreeSet<>();
        for (int i = 0; i < 200 && i + length <= steps.size(); i++) {
            List<Integer> part = new ArrayList<>(steps.subList(i, i + length));
            String told = part.toString();
            unlike.add(told);
            Collections.reverse(part);
            if (told.equals(part.toString())) {
                alikeBackward.add(told);
            }
        }
        return what == 0 ? unlike.size() : alikeBackward.size();
    }

    private Slope ringOf(int row, int n) {
        if (!isRow(row) || rows.get(row).kind != 4 || !in(n, 1, 60)) {
            return null;
        }
        Slope s = rows.get(row).slope;
        return s.fraction && n > s.below ? null : s;
    }

    /** The POINT next behind i: the one that is least far ahead round the ring. */
    private static int next(Slope s, int n, int i) {
        int best = i;
        BigDecimal least = of(1);
        for (int j = 0; j < n; j++) {
            if (j != i) {
                BigDecimal far = part(part(times(s, j)).subtract(part(times(s, i))));
                if (compare(far, least) < 0) {
                    best = j;
                    least = far;
                }
            }
        }
        return best;
    }

    private static BigDecimal length(Slope s, int n, int i) {
        int j = next(s, n, i);
        return i == j ? of(1) : part(part(times(s, j)).subtract(part(times(s, i))));
    }

    /** The lowest POINT of each sort of gap, the greatest gaps first. */
    private static List<Integer> sortsOf(Slope s, int n) {
        List<Integer> lowest = new ArrayList<>();
        for (int i = 0; i < n; i++) {
            boolean fresh = true;
            for (int other : lowest) {
                fresh &= compare(length(s, n, i), length(s, n, other)) != 0;
            }
            if (fresh) {
                lowest.add(i);
            }
        }
        lowest.sort((i, j) -> compare(length(s, n, j), length(s, n, i)));
        return lowest;
    }

    int gaps(int row, int n) {
        Slope s = ringOf(row, n);
        return s == null ? -1 : sortsOf(s, n).size();
    }

    int gap(int row, int n, int i, int what) {
        Slope s = ringOf(row, n);
        if (s == null || !in(i, 0, sortsOf(s, n).size() - 1) || !in(what, 0, 2)) {
            return NO;
        }
        int lowest = sortsOf(s, n).get(i);
        if (what == 0) {
            int many = 0;
            for (int j = 0; j < n; j++) {
                many += compare(length(s, n, j), length(s, n, lowest)) == 0 ? 1 : 0;
            }
            return many;
        }
        int y = next(s, n, lowest) - lowest;
        return what == 2 ? y : whole(length(s, n, lowest).subtract(times(s, y)));
    }

    int follows(int row, int n, int i) {
        Slope s = ringOf(row, n);
        return s == null || !in(i, 0, n - 1) ? -1 : next(s, n, i);
    }

    // ---- SPREAD, turnings, HEAPS ----

    long spread(int k, int m) {
        if (!in(m, 1, 40) || !in(k, 0, m)) {
            return -1;
        }
        List<String> first = new ArrayList<>(Collections.nCopies(k, "1"));
        List<String> last = new ArrayList<>(Collections.nCopies(m - k, "0"));
        while (first.size() >= 1 && last.size() >= 2) {
            List<String> got = new ArrayList<>();
            while (!first.isEmpty() && !last.isEmpty()) {
                got.add(first.remove(0) + last.remove(0));
            }
            List<String> left = first.isEmpty() ? last : first;
            first = got;
            last = left;
        }
        String all = String.join("", first) + String.join("", last);
        return new BigInteger(new StringBuilder(all).reverse().toString(), 2).longValueExact();
    }

    int turning(long bits, int m) {
        if (!in(m, 1, 40)) {
            return -1;
        }
        StringBuilder once = new StringBuilder();
        for (int bit : bitsOf(bits, m)) {
            once.append(bit);
        }
        int best = 0;
        for (int i = 0; i < m; i++) {
            if (turned(once, i).compareTo(turned(once, best)) < 0) {
                best = i;
            }
        }
        return best;
    }

    private static String turned(StringBuilder all, int from) {
        return all.substring(from) + all.substring(0, from);
    }

    /** A pair is lost if no lost pair can be reached from it: none left of it, none below, none aslant. */
    private static boolean[][] heaps() {
        boolean[][] won = new boolean[2001][2001];
        for (int a = 0; a <= 2000; a++) {
            for (int b = 0; b <= 2000; b++) {
                if (!won[a][b]) {
                    for (int more = 1; more <= 2000; more++) {
                        mark(won, a + more, b);
                        mark(won, a, b + more);
                        mark(won, a + more, b + more);
                    }
                }
            }
        }
        return won;
    }

    private static void mark(boolean[][] won, int a, int b) {
        if (a <= 2000 && b <= 2000) {
            won[a][b] = true;
        }
    }

    int wins(int a, int b) {
        return in(a, 0, 2000) && in(b, 0, 2000) ? WON[a][b] ? 1 : 0 : -1;
    }

    int takes(int a, int b) {
        if (!in(a, 0, 2000) || !in(b, 0, 2000)) {
            return -1;
        }
        for (int n = 1; n <= a; n++) {
            if (!WON[a - n][b]) {
                return 1000000 + n;
            }
        }
        for (int n = 1; n <= b; n++) {
            if (!WON[a][b - n]) {
                return 2000000 + n;
            }
        }
        for (int n = 1; n <= a && n <= b; n++) {
            if (!WON[a - n][b - n]) {
                return 3000000 + n;
            }
        }
        return -1;
    }

    // ---- ACTS ----

    int act(int row, int act, int x) {
        if (!isRow(row) || !in(act, 0, 3)) {
            return fail(1);
        }
        trace = new ArrayList<>();
        String name = new String[] {"go", "gap", "grow", "tell"}[act];
        int answer = call(rows.get(row), rows.get(row).kind, name, x);
        trace = new ArrayList<>(trace.subList(0, Math.min(50, trace.size())));
        return good(answer);
    }

    /** The body of this name of a KIND, or of the next one above that has one. */
    private int call(Row r, int kind, String name, int x) {
        int p = Math.max(0, at(steps(r, 1, 1), 0));
        int above = ABOVE[kind];
        switch (KINDS[kind] + " " + name) {
            case "ROW go":
                trace.add(10);
                return x + p;
            case "ROW gap":
                trace.add(11);
                return call(r, r.kind, "go", x) * 3;
            case "ROW grow":
                trace.add(12);
                return x - r.number;
            case "ROW tell":
                trace.add(13);
                int gap = call(r, r.kind, "gap", x);
                return gap ^ call(r, r.kind, "grow", x);
            case "EVEN go":
                trace.add(20);
                return call(r, above, "go", x) * 2;
            case "EVEN grow":
                trace.add(21);
                return call(r, above, "grow", x) + 7;
            case "RING gap":
                trace.add(30);
                return call(r, above, "gap", x + 1);
            case "RING tell":
                trace.add(31);
                int told = call(r, above, "tell", x);
                return told - call(r, r.kind, "grow", x);
            case "CUT go":
                trace.add(40);
                return call(r, above, "go", x - p);
            case "CUT grow":
                trace.add(41);
                return call(r, above, "grow", x) * 5;
            case "POINTS grow":
                trace.add(50);
                return call(r, above, "grow", x) ^ 9;
            case "POINTS gap":
                trace.add(51);
                int higher = call(r, above, "gap", x);
                return higher + call(r, above, "go", x);
            default:
                return call(r, above, name, x);
        }
    }

    int trace(int i) {
        return at(trace, i);
    }

    // ---- SHEETS and what the host does: here the host itself refuses ----

    int sheet(int sheet, int sort, int n) {
        if (!in(sheet, 0, 3) || !in(sort, -1, 2) || sort >= 0 && !in(n, 0, 40)) {
            return fail(1);
        }
        sorts[sheet] = sort;
        sheets[sheet] = sort < 0 ? null : new int[n];
        return good(1);
    }

    int cell(int sheet, int i, int v) {
        if (!in(sheet, 0, 3) || !in(v, -100, 100)) {
            return fail(1);
        }
        try {
            sheets[sheet][i] = v;
            return good(1);
        } catch (NullPointerException e) {
            return fail(10);
        } catch (ArrayIndexOutOfBoundsException e) {
            return fail(12);
        }
    }

    private static class RowThing {
    }

    private static class EvenThing extends RowThing {
    }

    private static final class RingThing extends EvenThing {
    }

    private static final class CutThing extends RowThing {
    }

    private static final class PointsThing extends EvenThing {
    }

    private RowThing thing(int k) {
        int at = ((k % 10) + 10) % 10;
        if (!isRow(at)) {
            return null;
        }
        return new RowThing[] {new RowThing(), new EvenThing(), new RingThing(), new CutThing(),
            new PointsThing()}[rows.get(at).kind];
    }

    private Object paper(int k) {
        int at = ((k % 4) + 4) % 4;
        if (sheets[at] == null) {
            return null;
        }
        int n = sheets[at].length;
        byte[] bytes = new byte[n];
        long[] longs = new long[n];
        for (int i = 0; i < n; i++) {
            bytes[i] = (byte) sheets[at][i];
            longs[i] = sheets[at][i];
        }
        return sorts[at] == 0 ? bytes : sorts[at] == 1 ? sheets[at] : longs;
    }

    int forge(int what, int n, int k) {
        if (!in(what, 0, 6) || !in(n, -100, 100) || !in(k, -100, 100)) {
            return fail(1);
        }
        try {
            return good(forged(what, n, k));
        } catch (NullPointerException e) {
            return fail(10);
        } catch (ClassCastException e) {
            return fail(11);
        } catch (IndexOutOfBoundsException e) {
            return fail(12);
        } catch (NegativeArraySizeException e) {
            return fail(13);
        } catch (ArrayStoreException e) {
            return fail(14);
        } catch (ArithmeticException e) {
            return fail(15);
        }
    }

    private int forged(int what, int n, int k) {
        int at = ((k % 10) + 10) % 10;
        switch (what) {
            case 0:
                List<Class<? extends RowThing>> kinds = List.of(RowThing.class, EvenThing.class, RingThing.class,
                        CutThing.class, PointsThing.class);
                kinds.get(((n % 5) + 5) % 5).cast(thing(k)).getClass();
                return rows.get(at).kind;
            case 1:
                return new int[n].length;
            case 2:
                return ((int[]) paper(k))[n];
            case 3:
                byte[] into = new byte[6];
                System.arraycopy((byte[]) paper(k), 1, into, n, n);
                int sum = 0;
                for (byte b : into) {
                    sum += b;
                }
                return sum;
            case 4:
                RowThing[] evens = new EvenThing[1];
                evens[0] = thing(k);
                return evens[0] == null ? 0 : rows.get(at).kind;
            case 5:
                return 1000 / n;
            default:
                RuntimeException none = n % 2 == 0 ? null : new IllegalStateException();
                try {
                    throw none;
                } catch (IllegalStateException e) {
                    return 1;
                }
        }
    }

    int status() {
        return status;
    }
}
