/** Edges of POINTS on the ring and of the GAPS between them. */
final class PointEdges extends Edges {
    PointEdges(Checks checks, Sentences sentences) {
        super(checks, sentences);
    }

    @Override
    void run() {
        lengths();
        ring();
        fractions();
        lowest();
        gaps();
        gap();
        follows();
    }

    private void lengths() {
        sentence(0, "GAPS of the first n POINTS (n 1 to 60) on the ring from 0 to 1");
        taken(0, y -> y.slope(-1, 1, 2, 5));
        taken(0, y -> y.points(0));
        asked(1, y -> y.gaps(0, 1));
        asked(3, y -> y.gaps(0, 60));
        asked(0, y -> y.follows(0, 1, 0));
        asked(34, y -> y.follows(0, 60, 0));
        for (int n : new int[] {0, -1, 61, LEAST, MOST}) {
            asked(-1, y -> y.gaps(0, n));
            asked(NO, y -> y.gap(0, n, 0, 0));
            asked(-1, y -> y.follows(0, n, 0));
        }
    }

    private void ring() {
        sentence(0, "from each to the next one, the greatest to the least one 1 further");
        taken(0, y -> y.slope(-1, 1, 2, 5));
        taken(0, y -> y.points(0));
        // two points: 0 and s; the gap behind s ends at 1
        asked(2, y -> y.gaps(0, 2));
        gap(0, 2, 0, 1, 0, 1);
        gap(0, 2, 1, 1, 1, -1);
        asked(1, y -> y.follows(0, 2, 0));
        asked(0, y -> y.follows(0, 2, 1));

        sentence(0, "of one POINT there is one gap of 1");
        taken(0, y -> y.slope(-1, 1, 2, 5));
        taken(1, y -> y.slope(20, 0, 1, 0));
        taken(0, y -> y.points(0));
        taken(1, y -> y.points(1));
        for (int i = 0; i < 2; i++) {
            int row = i;
            asked(1, y -> y.gaps(row, 1));
            gap(row, 1, 0, 1, 1, 0);
            asked(NO, y -> y.gap(row, 1, 1, 0));
            asked(0, y -> y.follows(row, 1, 0));
        }
    }

    private void fractions() {
        sentence(0, "(if the slope is a FRACTION with m below the line in lowest terms, n is at most m)");
        taken(0, y -> y.slope(1, 0, 60, 0));
        taken(1, y -> y.slope(1, 0, 61, 0));
        taken(2, y -> y.slope(6, 0, 16, 0));
        taken(3, y -> y.slope(20, 0, 1, 0));
        taken(4, y -> y.slope(59, 0, 59, 0));
        taken(5, y -> y.slope(1, 0, 59, 0));
        int[] most = {60, 60, 8, 1, 1, 59};
        int[] sorts = {1, 2, 1, 1, 1, 1};
        for (int i = 0; i < 6; i++) {
            int row = i;
            taken(row, y -> y.points(row));
            asked(sorts[row], y -> y.gaps(row, most[row]));
            asked(-1, y -> y.gaps(row, most[row] + 1));
            asked(NO, y -> y.gap(row, most[row] + 1, 0, 0));
            asked(-1, y -> y.follows(row, most[row] + 1, 0));
        }
        gap(0, 60, 0, 60, 0, 1);
        gap(1, 60, 0, 1, 1, -59);
        gap(1, 60, 1, 59, 0, 1);
        asked(0, y -> y.follows(0, 60, 59));
        asked(1, y -> y.follows(0, 60, 0));
    }

    private void lowest() {
        sentence(0, "the greatest first: as x + y s, of the gap behind the POINT with the lowest number");
        taken(0, y -> y.slope(5, 0, 8, 0));
        taken(1, y -> y.slope(-1, 1, 2, 5));
        taken(0, y -> y.points(0));
        taken(1, y -> y.points(1));
        // round the ring 0 5 2 4 1 6 3: one gap of 2 / 8 behind 2, six of 1 / 8, which is -3 + 5 s as well as 2 - 3 s
        asked(2, y -> y.gaps(0, 7));
        gap(0, 7, 0, 1, -1, 2);
        gap(0, 7, 1, 6, -3, 5);
        gap(0, 8, 0, 8, -3, 5);
        asked(3, y -> y.gaps(1, 4));
        // round the ring 0 2 1 3
        gap(1, 4, 0, 1, 1, -1);
        gap(1, 4, 1, 2, -1, 2);
        gap(1, 4, 2, 1, 2, -3);
    }

    private void gaps() {
        sentence(24, "GAPS of the first n POINTS of a ROW of KIND 4: how many sorts there are. -1: no such.");
        asked(-1, y -> y.gaps(0, 1));
        taken(0, y -> y.slope(-1, 1, 2, 5));
        taken(0, y -> y.points(0));
        taken(1, y -> y.even(0, 0, 1));
        taken(2, y -> y.ring(1, 60));
        taken(3, y -> y.cut(0, 0, 1, 1, 1));
        int row = told(1, 2);
        askedEach((y, n) -> y.gaps(0, n), -1, 1, 2, 2, 3, 2, 3, 3, 2);
        for (int other : new int[] {1, 2, 3, row, -1, 5, 10, LEAST, MOST}) {
            asked(-1, y -> y.gaps(other, 1));
            asked(-1, y -> y.gaps(other, 2));
        }
    }

    private void gap() {
        sentence(25, "Of sort i of these (0: the greatest): 0 how many gaps, 1 x, 2 y. NO: no such.");
        asked(NO, y -> y.gap(0, 1, 0, 0));
        taken(0, y -> y.slope(-1, 1, 2, 5));
        taken(0, y -> y.points(0));
        taken(1, y -> y.even(0, 0, 1));
        gap(0, 10, 0, 3, 2, -3, NO);
        gap(0, 10, 1, 5, -3, 5, NO);
        gap(0, 10, 2, 2, 5, -8, NO);
        gap(0, 10, 3, NO, NO, NO, NO);
        gap(0, 13, 1, 5, 5, -8, NO);
        gap(0, 13, 2, NO, NO, NO);
        for (int i : new int[] {-1, 3, 59, 60, LEAST, MOST}) {
            asked(NO, y -> y.gap(0, 10, i, 0));
        }
        for (int what : new int[] {-1, 3, LEAST, MOST}) {
            asked(NO, y -> y.gap(0, 10, 0, what));
        }
        for (int none : new int[] {1, -1, 2, 10, LEAST, MOST}) {
            asked(NO, y -> y.gap(none, 10, 0, 0));
        }
    }

    private void follows() {
        sentence(26, "The number of the POINT that comes next behind POINT i on the ring, of the first n "
                + "(itself, of one). -1: no such.");
        asked(-1, y -> y.follows(0, 1, 0));
        taken(0, y -> y.slope(-1, 1, 2, 5));
        taken(0, y -> y.points(0));
        taken(1, y -> y.even(0, 0, 1));
        askedEach((y, i) -> y.follows(0, 1, i), 0, -1);
        askedEach((y, i) -> y.follows(0, 2, i), 1, 0, -1);
        askedEach((y, i) -> y.follows(0, 3, i), 2, 0, 1, -1);
        askedEach((y, i) -> y.follows(0, 10, i), 5, 6, 7, 8, 9, 2, 3, 4, 0, 1, -1);
        asked(4, y -> y.follows(0, 60, 59));
        asked(-1, y -> y.follows(0, 60, 60));
        for (int i : new int[] {-1, 10, 60, LEAST, MOST}) {
            asked(-1, y -> y.follows(0, 10, i));
        }
        for (int none : new int[] {1, -1, 2, 10, LEAST, MOST}) {
            asked(-1, y -> y.follows(none, 1, 0));
        }
    }
}
