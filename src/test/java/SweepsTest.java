import java.util.Random;

/** Whole ranges of arguments, against PlainSteps or against what must hold of the answers. */
public final class SweepsTest {
    /** Two slopes that nearly share out all numbers, and the least number that is told twice or not at all. */
    private static final int[][] NEARLY_SHARED = {{56, 6, 34, 5, 54, 7, 37, 7, -2}, {-5, 7, 5, 6, 27, 6, 22, 3, -2},
        {11, 11, 36, 7, 12, 10, 3, 3, -2}, {7, 2, 11, 6, 22, 2, 2, 5, 4989}, {16, -3, 7, 3, 27, 3, 11, 2, 3288},
        {27, 3, 7, 3, 23, -4, 11, 5, 1687}, {16, 4, 4, 5, 18, -2, 11, 6, 554},
        {224, 15, 66, 50, 23, 14, 96, 48, 5000}, {7, 18, 70, 20, 565, -18, 100, 13, 5000},
        {147, 9, 27, 38, 110, 1, 100, 29, -2}, {-41, 14, 16, 27, 176, -8, 70, 19, -2}};
    private final Checks checks = new Checks();
    private final PlainSteps plain = new PlainSteps();
    private final EvenSteps subject = new EvenSteps();
    private final Random random = new Random(20);

    public static void main(String[] args) {
        SweepsTest test = new SweepsTest();
        test.heaps();
        test.spreads();
        test.turnings();
        test.slopes();
        test.shares();
        test.nearlyShared();
        test.ranges();
        test.lastPlaces();
        test.checks.end();
    }

    private void heaps() {
        for (int a = 0; a <= 2000; a++) {
            for (int b = 0; b <= 2000; b++) {
                checks.same("wins", subject.wins(a, b), plain.wins(a, b));
            }
        }
        for (int i = 0; i < 100000; i++) {
            int a = random.nextInt(i % 2 == 0 ? 60 : 2001);
            int b = random.nextInt(i % 3 == 0 ? 60 : 2001);
            checks.same("takes(" + a + ", " + b + ")", subject.takes(a, b), plain.takes(a, b));
        }
    }

    private void spreads() {
        for (int m = 1; m <= 40; m++) {
            for (int k = 0; k <= m; k++) {
                checks.same("spread(" + k + ", " + m + ")", subject.spread(k, m), plain.spread(k, m));
                checks.same("as many", Long.bitCount(subject.spread(k, m)), k);
            }
        }
    }

    private void turnings() {
        for (int m = 1; m <= 12; m++) {
            for (long bits = 0; bits < 1L << m; bits++) {
                checks.same("turning(" + bits + ", " + m + ")", subject.turning(bits, m), plain.turning(bits, m));
            }
        }
        for (int i = 0; i < 3000; i++) {
            long bits = random.nextLong() & random.nextLong() | random.nextInt(5);
            int m = 1 + random.nextInt(40);
            checks.same("turning(" + bits + ", " + m + ")", subject.turning(bits, m), plain.turning(bits, m));
        }
    }

    private int[] anySlope() {
        int kind = random.nextInt(4);
        int b = kind == 0 ? 0 : random.nextInt(41) - 20;
        int a = random.nextInt(kind == 1 ? 2001 : 201) - (kind == 1 ? 1000 : 100);
        return new int[] {a, b, 1 + random.nextInt(100), 2 + random.nextInt(49)};
    }

    private void slopes() {
        int made = 0;
        for (int i = 0; i < 6000 && made < 60; i++) {
            int[] s = anySlope();
            EvenSteps x = new EvenSteps();
            PlainSteps y = new PlainSteps();
            String name = "slope(" + s[0] + ", " + s[1] + ", " + s[2] + ", " + s[3] + ")";
            int got = x.slope(s[0], s[1], s[2], s[3]);
            checks.same(name, got, y.slope(s[0], s[1], s[2], s[3]));
            checks.same(name + " status", x.status(), y.status());
            if (got == 0) {
                made++;
                askSlope(name, x, y);
            }
        }
        checks.holds("many slopes are made", made == 60);
    }

    private void askSlope(String name, EvenSteps x, PlainSteps y) {
        for (int i = 0; i <= 20; i++) {
            checks.same(name + " quotient " + i, x.quotient(0, i), y.quotient(0, i));
            checks.same(name + " line " + i, x.line(0, i), y.line(0, i));
        }
        for (int i = 0; i <= 20; i++) {
            int due = y.nearer(0, i);
            checks.same(name + " nearer " + i, x.nearer(0, i), due);
            if (due < 0) {
                break;
            }
        }
        for (int i = 0; i < 20; i++) {
            int n = i < 10 ? random.nextInt(100001) : 100000 - i;
            checks.same(name + " whole " + n, x.whole(0, n), y.whole(0, n));
            int q = 1 + random.nextInt(10000);
            int p = Math.min(200000, x.whole(0, q) + random.nextInt(2));
            checks.same(name + " against " + p + " " + q, x.against(0, p, q), y.against(0, p, q));
        }
        x.points(0);
        y.points(0);
        for (int n = 1; n <= 60; n += 1 + random.nextInt(24)) {
            askPoints(name, x, y, n);
        }
    }

    private void askPoints(String name, EvenSteps x, PlainSteps y, int n) {
        checks.same(name + " gaps " + n, x.gaps(0, n), y.gaps(0, n));
        for (int i = 0; i < 3; i++) {
            for (int what = 0; what < 3; what++) {
                checks.same(name + " gap " + n + " " + i + " " + what, x.gap(0, n, i, what), y.gap(0, n, i, what));
            }
        }
        for (int i = 0; i < n; i++) {
            checks.same(name + " follows " + n + " " + i, x.follows(0, n, i), y.follows(0, n, i));
        }
    }

    /** With s = (a + root of d) / c goes t = s / (s - 1), which is told here where c is such that it is a slope. */
    private void shares() {
        int made = 0;
        for (int d = 2; d <= 50; d++) {
            for (int a = -6; a <= 12; a++) {
                for (int c = 1; c <= 6; c++) {
                    // (s - 1) (t - 1) = 1: t = 1 + c / (x + root of d), x = a - c; made free of the root below
                    int x = a - c;
                    int below = d - x * x;
                    int sign = below > 0 ? 1 : -1;
                    EvenSteps pair = new EvenSteps();
                    if (pair.slope(a, 1, c, d) != 0
                            || pair.slope(sign * (below - c * x), sign * c, sign * below, d) != 1) {
                        continue;
                    }
                    made++;
                    checks.same("share of " + a + " " + c + " " + d, pair.share(0, 1), 0);
                    checks.same("share turned", pair.share(1, 0), 0);
                    pair.slope(2 * a, 2, 2 * c, d);
                    checks.same("share of the same in other terms", pair.share(2, 1), 0);
                    if (4 * d <= 50) {
                        pair.slope(2 * a, 1, 2 * c, 4 * d);
                        checks.same("share with another root", pair.share(3, 1), 0);
                    }
                }
            }
        }
        checks.holds("many pairs are made", made > 50);
    }

    private void nearlyShared() {
        for (int[] pair : NEARLY_SHARED) {
            EvenSteps x = new EvenSteps();
            PlainSteps y = new PlainSteps();
            for (int i = 0; i < 8; i += 4) {
                x.slope(pair[i], pair[i + 1], pair[i + 2], pair[i + 3]);
                y.slope(pair[i], pair[i + 1], pair[i + 2], pair[i + 3]);
            }
            checks.same("nearly shared", x.share(0, 1), pair[8]);
            checks.same("nearly shared, turned", x.share(1, 0), pair[8]);
            checks.same("nearly shared, plainly", y.share(0, 1), pair[8]);
        }
    }

    /** A number between the ends of a RANGE has a t, one at an end has none. */
    private void ranges() {
        for (int i = 0; i < 3000; i++) {
            EvenSteps x = new EvenSteps();
            int n = 1 + random.nextInt(12);
            int[] steps = new int[n];
            int base = random.nextInt(3);
            x.sheet(0, 2, n);
            for (int j = 0; j < n; j++) {
                steps[j] = base + (random.nextInt(3) == 0 ? 1 : 0);
                x.cell(0, j, steps[j]);
            }
            x.row(0, 2, n);
            askRange(x, steps);
        }
    }

    private void askRange(EvenSteps x, int[] steps) {
        int n = steps.length;
        int lowAbove = x.range(0, 0, n, 0);
        int lowBelow = x.range(0, 0, n, 1);
        int highAbove = x.range(0, 0, n, 2);
        int highBelow = x.range(0, 0, n, 3);
        boolean some = lowAbove != EvenSteps.NO;
        checks.same("there is a range just if it is even", some ? 1 : 0, x.isEven(0, 0, n));
        if (some) {
            checks.holds("none at the lower end", !hasShift(steps, lowAbove, lowBelow));
            checks.holds("none at the upper end", !hasShift(steps, highAbove, highBelow));
            // the fraction between the two that lies as near to one end as we like
            long far = 1000;
            checks.holds("near the lower end",
                    hasShift(steps, far * lowAbove + highAbove, far * lowBelow + highBelow));
            checks.holds("near the upper end",
                    hasShift(steps, lowAbove + far * highAbove, lowBelow + far * highBelow));
        }
    }

    /** Whether some t has WHOLE of s i + t for all sums: the greatest need is below the least bound. */
    private static boolean hasShift(int[] steps, long above, long below) {
        long need = 0;
        long bound = below;
        long sum = 0;
        for (int i = 0; i < steps.length; i++) {
            sum += steps[i];
            need = Math.max(need, sum * below - above * (i + 1));
            bound = Math.min(bound, (sum + 1) * below - above * (i + 1));
        }
        return need < bound;
    }

    private void lastPlaces() {
        EvenSteps x = new EvenSteps();
        PlainSteps y = new PlainSteps();
        x.slope(-7, 5, 100, 50);
        y.slope(-7, 5, 100, 50);
        x.even(0, 98, 99);
        y.even(0, 98, 99);
        int[][] cuts = {{1, 2, 0, 1}, {21, 5, 2, 3}, {1, 1, 0, 1}, {5, 3, 63, 6}};
        for (int i = 0; i < cuts.length; i++) {
            int[] c = cuts[i];
            checks.same("cut", x.cut(i, c[0], c[1], c[2], c[3]), y.cut(i, c[0], c[1], c[2], c[3]));
        }
        for (int row = 0; row < 5; row++) {
            for (int place = 9980; place <= 10002; place++) {
                checks.same("step(" + row + ", " + place + ")", x.step(row, place), y.step(row, place));
                checks.same("sum(" + row + ", " + place + ")", x.sum(row, place), y.sum(row, place));
            }
        }
    }
}
