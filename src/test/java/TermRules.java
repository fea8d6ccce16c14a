/** What the terms in capitals say besides their edges. */
final class TermRules extends Edges {
    TermRules(Checks checks, Sentences sentences) {
        super(checks, sentences);
    }

    @Override
    void run() {
        slopes();
        parts();
        evens();
        kinds();
        cuts();
        sums();
        clashes();
        ranges();
        points();
        gapSorts();
        quotients();
        nearers();
        lines();
        digits();
        spreads();
        heaps();
        acts();
        bodies();
        supers();
        order();
        status();
        none();
    }

    private void slopes() {
        sentence(0, "SLOPES 0 .. 7 are numbered as they come: numbers (A + B times the root of D) / C,");
        taken(0, y -> y.slope(-1, 1, 2, 5));
        taken(1, y -> y.slope(10, -1, 1, 50));
        taken(2, y -> y.slope(8, -1, 2, 8));
        taken(3, y -> y.slope(5, -1, 1, 24));
        taken(4, y -> y.slope(0, 1, 2, 8));
        taken(5, y -> y.slope(0, 2, 4, 8));
        taken(6, y -> y.slope(7, 0, 3, 0));
        // 0.618.., 2.928.., 2.585.., 0.101.., and the root of 2 told in two ways
        wholes(1, 0, 2, 2, 0, 1, 1, 2);
        wholes(2, 1, 5, 5, 0, 2, 2, 4);
        wholes(3, 1, 8, 7, 0, 4, 4, 7);
        wholes(10, 6, 29, 25, 1, 14, 14, 23);
        wholes(100000, 61803, 292893, 258578, 10102, 141421, 141421, 233333);
        // 1 less the root of 2, 4 less that of 17, and 5 less that of 26 are below 0; 5 less that of 24 is above it
        refused(3, y -> y.slope(1, -1, 1, 2));
        refused(3, y -> y.slope(4, -1, 1, 17));
        refused(3, y -> y.slope(5, -1, 1, 26));
        refused(3, y -> y.slope(-2, 1, 1, 3));
        taken(7, y -> y.slope(-1, 1, 1, 3));
    }

    private void wholes(int n, long... due) {
        askedEach((y, slope) -> y.whole(slope, n), due);
    }

    private void parts() {
        sentence(0, "WHOLE of a number is the greatest whole number that is not above it, its PART what is beyond.");
        taken(0, y -> y.slope(5, 0, 2, 0));
        taken(1, y -> y.slope(8, -1, 2, 8));
        taken(2, y -> y.slope(3, 0, 1, 0));
        // the PARTS of 2.5 and 5 are a half and 0; those of 2.58.., 5.17.., 7.75.. are just so
        asked(1, y -> y.within(0, 5, 6, 10));
        asked(2, y -> y.within(0, 0, 5, 10));
        asked(-1, y -> y.within(0, 6, 10, 10));
        asked(1, y -> y.within(1, 585, 586, 1000));
        asked(2, y -> y.within(1, 171, 172, 1000));
        asked(3, y -> y.within(1, 757, 758, 1000));
        asked(1, y -> y.within(2, 0, 1, 1000));
        asked(-1, y -> y.within(2, 1, 1000, 1000));
    }

    private void evens() {
        sentence(0, "1 EVEN, under ROW: of a SLOPE s and a SHIFT u / v (v 1 .. 100, u from 0 to v less 1): "
                + "the STEP at n is WHOLE of s (n + 1) + u / v, less WHOLE of s n + u / v.");
        taken(0, y -> y.slope(-1, 1, 2, 5));
        taken(1, y -> y.slope(10, -1, 1, 50));
        taken(2, y -> y.slope(7, 0, 3, 0));
        taken(0, y -> y.even(0, 1, 2));
        taken(1, y -> y.even(1, 99, 100));
        taken(2, y -> y.even(2, 2, 3));
        taken(3, y -> y.even(2, 1, 3));
        taken(4, y -> y.even(2, 0, 3));
        taken(5, y -> y.even(1, 0, 1));
        steps(0, 1, 0, 1, 0, 1, 1, 0, 1, 1, 0, 1, 0, 1, 1, 0, 1, 1, 0, 1, 0);
        steps(1, 3, 3, 3, 3, 3, 3, 3, 3, 3, 3, 3, 3, 3, 2, 3, 3, 3, 3, 3, 3);
        steps(2, 3, 2, 2, 3, 2, 2, 3);
        steps(3, 2, 3, 2, 2, 3, 2, 2);
        steps(4, 2, 2, 3, 2, 2, 3, 2);
        steps(5, 2, 3, 3, 3, 3, 3, 3, 3, 3, 3, 3, 3, 3, 3, 2, 3);
    }

    private void steps(int row, long... due) {
        askedEach((y, place) -> y.step(row, place), due);
    }

    private void kinds() {
        sentence(0, "KINDS: 0 ROW: told steps (0 .. 100), 1 to 40. 1 EVEN, under ROW:");
        rowOfEachKind();
        askedEach((y, row) -> y.kind(row), 0, 1, 2, 3, 4, -1);
        under(0, 0);
        under(1, 0, 1);

        sentence(0, "2 RING, under EVEN: k steps on m places");
        rowOfEachKind();
        under(2, 0, 1, 2);
        under(3, 0, 3);
        under(4, 0, 1, 4);
    }

    /** ROW i is of KIND i. */
    private void rowOfEachKind() {
        told(3, 5);
        taken(0, y -> y.slope(5, 0, 2, 0));
        taken(1, y -> y.even(0, 0, 1));
        taken(2, y -> y.ring(3, 4));
        taken(3, y -> y.cut(2, 1, 1, 2, 2));
        taken(4, y -> y.points(0));
    }

    /** The KINDS that a ROW of a KIND may be taken for. */
    private void under(int kind, int... above) {
        for (int i = 0; i < 5; i++) {
            int other = i;
            boolean is = false;
            for (int one : above) {
                is |= one == other;
            }
            if (is) {
                taken(kind, y -> y.forge(0, other, kind));
            } else {
                refused(11, y -> y.forge(0, other, kind));
            }
        }
    }

    private void cuts() {
        sentence(0, "3 CUT, under ROW: of a ROW ahead of it: "
                + "for each STEP of that, in order, a stretch: of 0 the first, of 1 the second one");
        int source = told(0, 1, 1, 0, 2, 1);
        taken(1, y -> y.cut(source, 3, 3, 1, 2));
        steps(1, 1, 1, 0, 1, 0, 1, 0, 1, 1, 0, -1);
        taken(2, y -> y.cut(source, 1, 2, 3, 3));
        steps(2, 1, 0, 1, 1, 0, 1, 1, 0, 1, 0, -1);
        taken(3, y -> y.cut(source, 63, 6, 0, 1));
        steps(3, 1, 1, 1, 1, 1, 1, 0, 0, 1, 1, 1, 1, 1, 1, -1);
        // each 1 0 of a row of cuts is cut on its own
        int one = told(1);
        taken(5, y -> y.cut(one, 0, 1, 1, 2));
        taken(6, y -> y.cut(5, 1, 1, 1, 2));
        taken(7, y -> y.cut(6, 1, 1, 1, 2));
        taken(8, y -> y.cut(7, 1, 1, 1, 2));
        steps(5, 1, 0, -1);
        steps(6, 1, 0, 1, -1);
        steps(7, 1, 0, 1, 1, 0, -1);
        steps(8, 1, 0, 1, 1, 0, 1, 0, 1, -1);
    }

    private void sums() {
        sentence(0, "SUM of n: the sum of the STEPS at 0 .. n - 1.");
        taken(0, y -> y.ring(1, 3));
        taken(1, y -> y.cut(0, 1, 1, 3, 3));
        steps(1, 1, 1, 1, 1, 0, 1, 1, 1, 1, 0, 1);
        for (int n : new int[] {0, 1, 2, 3, 4, 5, 63, 64, 65, 66, 127, 128, 129, 191, 9983, 9984, 9985, 9999, 10000}) {
            asked(n / 3, y -> y.sum(0, n));
            asked(n - n / 5, y -> y.sum(1, n));
        }
    }

    private void clashes() {
        sentence(0, "else THE CLASH is two that differ by more: of the least length");
        // sums of 1 and of 2 differ by at most 1, of 3 they are 3 and 1
        int three = told(1, 1, 1, 0, 1, 0);
        clashOrEven(three, 0, 6, 3, 0, 3);
        clashOrEven(three, 0, 5, -1, -1, -1);
        clashOrEven(three, 1, 5, -1, -1, -1);
        int more = told(3, 3, 2, 2, 3);
        clashOrEven(more, 0, 5, 2, 0, 2);
        clashOrEven(more, 0, 3, -1, -1, -1);
        clashOrEven(more, 1, 4, -1, -1, -1);
        // 0 1 0 1 0 ahead and 1 0 1 0 1 1 behind: of 5 they are 2 and 4, of less they are not so far apart
        int five = told(0, 1, 0, 1, 0, 1, 1, 0, 1, 1);
        clashOrEven(five, 0, 10, 5, 0, 5);
        clashOrEven(five, 0, 9, -1, -1, -1);
        clashOrEven(five, 1, 9, -1, -1, -1);
        int last = told(5, 6, 5, 6, 6, 6, 5, 5);
        clashOrEven(last, 0, 8, 2, 3, 6);
        clashOrEven(last, 0, 7, 3, 0, 3);
        clashOrEven(last, 1, 6, -1, -1, -1);
    }

    private void clashOrEven(int row, int from, int n, long... due) {
        clash(row, from, n, due);
        asked(due[0] < 0 ? 1 : 0, y -> y.isEven(row, from, n));
    }

    private void ranges() {
        sentence(0, "THE RANGE of a STRETCH: all numbers s such that with some number t, for all i from 0 to n, "
                + "WHOLE of s i + t is the sum of its first i STEPS:");
        int twos = told(1, 2, 2);
        range(twos, 0, 3, 3, 2, 2, 1);
        int threes = told(3, 2, 3, 3, 3, 2);
        range(threes, 0, 3, 7, 3, 3, 1);
        range(threes, 1, 4, 8, 3, 3, 1);
        range(threes, 2, 4, 8, 3, 3, 1);
        int waves = told(0, 1, 0, 1, 0);
        range(waves, 0, 5, 1, 3, 3, 5);
        int turns = told(1, 1, 0, 1, 0);
        range(turns, 0, 5, 1, 2, 2, 3);
        taken(0, y -> y.slope(-1, 1, 2, 5));
        taken(4, y -> y.even(0, 1, 2));
        range(4, 0, 10, 3, 5, 2, 3);
    }

    private void points() {
        sentence(0, "4 POINTS, under EVEN: of a SLOPE, SHIFT 0; its POINT i is the PART of s i.");
        taken(0, y -> y.slope(12, 0, 7, 0));
        taken(1, y -> y.slope(-1, 1, 2, 5));
        taken(0, y -> y.points(0));
        taken(1, y -> y.points(1));
        // of sevenths: 0, 5, 3, 1, 6, 4, 2
        follow(0, 7, 3, 4, 5, 6, 0, 1, 2, -1);
        follow(0, 4, 3, 0, 1, 2, -1);
        follow(1, 7, 5, 6, 4, 0, 1, 2, 3, -1);
        steps(0, 1, 2, 2, 1, 2, 2, 2);
        steps(1, 0, 1, 0, 1, 1, 0, 1);

        sentence(0, "on the ring from 0 to 1, where 1 is 0 again:");
        taken(0, y -> y.slope(9, 0, 10, 0));
        taken(1, y -> y.slope(1, 0, 10, 0));
        taken(0, y -> y.points(0));
        taken(1, y -> y.points(1));
        follow(0, 3, 2, 0, 1, -1);
        follow(1, 3, 1, 2, 0, -1);
        gap(0, 3, 0, 1, -1, 2);
        gap(0, 3, 1, 2, 1, -1);
        gap(1, 3, 0, 1, 1, -2);
        gap(1, 3, 1, 2, 0, 1);

        sentence(0, "Two POINTS are not alike (if the slope is a FRACTION");
        taken(0, y -> y.slope(6, 0, 4, 0));
        taken(1, y -> y.slope(0, 1, 1, 2));
        taken(0, y -> y.points(0));
        taken(1, y -> y.points(1));
        asked(1, y -> y.gaps(0, 2));
        asked(-1, y -> y.gaps(0, 3));
        asked(NO, y -> y.gap(0, 3, 0, 0));
        asked(-1, y -> y.follows(0, 3, 0));
        asked(2, y -> y.gaps(1, 12));
        asked(3, y -> y.gaps(1, 60));
    }

    private void follow(int row, int n, long... due) {
        askedEach((y, i) -> y.follows(row, n, i), due);
    }

    private void gapSorts() {
        sentence(0, "Their lengths are told by sorts, the greatest first: as x + y s, of the gap behind the POINT "
                + "with the lowest number: y is the number of the POINT at its end less that of the POINT at its "
                + "beginning.");
        taken(0, y -> y.slope(12, 0, 7, 0));
        taken(1, y -> y.slope(-1, 1, 2, 5));
        taken(2, y -> y.slope(10, -1, 1, 50));
        taken(3, y -> y.slope(8, -1, 2, 8));
        for (int i = 0; i < 4; i++) {
            int slope = i;
            taken(slope, y -> y.points(slope));
        }
        // 0 and 1 / 7 are one seventh apart, the others two; three of these have the same y
        asked(2, y -> y.gaps(0, 4));
        gap(0, 4, 0, 3, 2, -1, NO);
        gap(0, 4, 1, 1, -5, 3, NO);
        // from 0 on it is 3, from 4 on it is -4: the lowest number is 0's
        asked(1, y -> y.gaps(0, 7));
        gap(0, 7, 0, 7, -5, 3, NO);
        gap(0, 7, 1, NO);
        asked(3, y -> y.gaps(1, 7));
        gap(1, 7, 0, 1, -1, 2, NO);
        gap(1, 7, 1, 4, 2, -3, NO);
        gap(1, 7, 2, 2, -3, 5, NO);
        asked(2, y -> y.gaps(2, 9));
        gap(2, 9, 0, 1, -23, 8, NO);
        gap(2, 9, 1, 8, 3, -1, NO);
        asked(3, y -> y.gaps(3, 60));
        gap(3, 60, 0, 10, -31, 12, NO);
        gap(3, 60, 1, 19, -106, 41, NO);
        gap(3, 60, 2, 31, 75, -29, NO);
        gap(3, 60, 3, NO);
    }

    private void quotients() {
        sentence(0, "QUOTIENTS of a SLOPE: the WHOLE of it; "
                + "if it has a PART, then those of 1 by the PART; at most 20.");
        taken(0, y -> y.slope(93, 0, 40, 0));
        taken(1, y -> y.slope(10, -1, 1, 50));
        taken(2, y -> y.slope(5, -1, 1, 24));
        taken(3, y -> y.slope(8, -1, 2, 8));
        taken(4, y -> y.slope(6, 0, 2, 0));
        askedEach((y, i) -> y.quotient(0, i), 2, 3, 13, -1);
        askedEach((y, i) -> y.quotient(1, i),
                2, 1, 13, 14, 14, 14, 14, 14, 14, 14, 14, 14, 14, 14, 14, 14, 14, 14, 14, 14, -1);
        askedEach((y, i) -> y.quotient(2, i), 0, 9, 1, 8, 1, 8, 1, 8, 1, 8, 1, 8, 1, 8, 1, 8, 1, 8, 1, 8, -1);
        askedEach((y, i) -> y.quotient(3, i), 2, 1, 1, 2, 2, 2, 2, 2, 2, 2, 2, 2, 2, 2, 2, 2, 2, 2, 2, 2, -1);
        askedEach((y, i) -> y.quotient(4, i), 3, -1);
    }

    private void nearers() {
        sentence(0, "NEARERS: the numbers n from 1 to 2000 for which s n is nearer to a whole number "
                + "than s times all numbers from 1 on that are less than n");
        taken(0, y -> y.slope(0, 1, 1, 2));
        taken(1, y -> y.slope(10, -1, 1, 50));
        taken(2, y -> y.slope(5, -1, 1, 24));
        taken(3, y -> y.slope(3, 0, 8, 0));
        taken(4, y -> y.slope(2, 0, 3, 0));
        taken(5, y -> y.slope(4, 0, 1, 0));
        askedEach((y, i) -> y.nearer(0, i), 1, 2, 5, 12, 29, 70, 169, 408, 985, -1);
        askedEach((y, i) -> y.nearer(1, i), 1, 14, 197, -1);
        askedEach((y, i) -> y.nearer(2, i), 1, 9, 10, 89, 99, 881, 980, -1);
        // three eighths, a quarter and an eighth away, then none
        askedEach((y, i) -> y.nearer(3, i), 1, 2, 3, 8, -1);
        // twice 2 / 3 is as far as 2 / 3
        askedEach((y, i) -> y.nearer(4, i), 1, 3, -1);
        askedEach((y, i) -> y.nearer(5, i), 1, -1);
    }

    private void lines() {
        sentence(0, "LINES are 1 and the numbers below the line of the fractions that its first QUOTIENTS make "
                + "(the second one is the second QUOTIENT, each further one the next QUOTIENT times the one before it "
                + "and the one before that), as far as they are at most 10000;");
        taken(0, y -> y.slope(0, 1, 1, 2));
        taken(1, y -> y.slope(10, -1, 1, 50));
        taken(2, y -> y.slope(5, -1, 1, 24));
        taken(3, y -> y.slope(93, 0, 40, 0));
        taken(4, y -> y.slope(8, -1, 2, 8));
        askedEach((y, i) -> y.line(0, i), 1, 2, 5, 12, 29, 70, 169, 408, 985, 2378, 5741, -1);
        askedEach((y, i) -> y.line(1, i), 1, 14, 197, 2772, -1);
        askedEach((y, i) -> y.line(2, i), 1, 9, 10, 89, 99, 881, 980, 8721, 9701, -1);
        askedEach((y, i) -> y.line(3, i), 1, 3, 40, -1);
        askedEach((y, i) -> y.line(4, i), 1, 2, 5, 12, 29, 70, 169, 408, 985, 2378, 5741, -1);
    }

    private void digits() {
        sentence(0, "the greatest LINE's DIGIT is how often it goes into N, "
                + "then of what is left the next lower one's, and so on");
        taken(0, y -> y.slope(0, 1, 1, 2));
        taken(1, y -> y.slope(93, 0, 40, 0));
        taken(2, y -> y.slope(6, 0, 2, 0));
        askedEach((y, i) -> y.digit(0, 100, i), 1, 0, 0, 0, 1, 1, 0, 0, 0, 0, 0, -1);
        askedEach((y, i) -> y.digit(0, 9999, i), 0, 2, 1, 0, 0, 1, 0, 2, 1, 1, 1, -1);
        askedEach((y, i) -> y.digit(1, 10000, i), 0, 0, 250, -1);
        askedEach((y, i) -> y.digit(1, 9999, i), 0, 13, 249, -1);
        askedEach((y, i) -> y.digit(1, 38, i), 2, 12, 0, -1);
        askedEach((y, i) -> y.digit(2, 10000, i), 10000, -1);
    }

    private void spreads() {
        sentence(0, "k rows of one 1, m - k rows of one 0; these are the first and the last sort; again and again, "
                + "while there is a row of the first sort and there are two or more of the last one: "
                + "rows of the last sort are put each behind one of the first sort, as many as can be;");
        spread(2, 8, "10001000");
        spread(3, 7, "1010100");
        spread(1, 40, "1000000000000000000000000000000000000000");
        spread(39, 40, "1111111111111111111111111111111111111110");
        spread(1, 2, "10");
        spread(2, 3, "110");

        sentence(0, "those that got one are the first sort then, those that are left over, of whichever sort, "
                + "the last one; at last all stand one behind the other, the first sort ahead.");
        spread(4, 6, "101101");
        spread(7, 10, "1011011011");
        spread(6, 9, "101101101");
        spread(13, 40, "1001001001001001001001001001001001001000");
        spread(27, 40, "1011011011011011011011011011011011011011");
        spread(20, 40, "1010101010101010101010101010101010101010");
    }

    private void spread(int k, int m, String places) {
        long bits = Long.parseLong(new StringBuilder(places).reverse().toString(), 2);
        asked(bits, y -> y.spread(k, m));
    }

    private void heaps() {
        sentence(0, "in turn, a player takes 1 or more from one heap, or as many from both; "
                + "who takes the last one wins.");
        int[][] lost = {{0, 0}, {1, 2}, {3, 5}, {4, 7}, {6, 10}, {8, 13}, {9, 15}, {11, 18}, {12, 20}, {14, 23}};
        for (int[] pair : lost) {
            asked(0, y -> y.wins(pair[0], pair[1]));
            asked(0, y -> y.wins(pair[1], pair[0]));
            asked(-1, y -> y.takes(pair[0], pair[1]));
        }
        // all of a heap or of both is taken, and so is the last one
        asked(1000005, y -> y.takes(5, 0));
        asked(2000005, y -> y.takes(0, 5));
        asked(3000004, y -> y.takes(4, 4));
        // what is left is lost for the other one
        asked(1000002, y -> y.takes(5, 5));
        asked(2000002, y -> y.takes(2, 3));
        asked(2000003, y -> y.takes(5, 6));
        asked(3000007, y -> y.takes(8, 9));
        asked(3000001, y -> y.takes(1, 1));
        asked(1, y -> y.wins(1, 1) * y.wins(0, 1) * y.wins(2, 2) * y.wins(1, 3));
    }

    private void acts() {
        sentence(0, "ACTS of ROWS, with a number x (32 bits, wrapping): 0 go, 1 gap, 2 grow, 3 tell;");
        told(3, 5);
        act(0, 0, 15, 10);
        act(0, 1, 45, 11, 10);
        act(0, 2, 10, 12);
        act(0, 3, 39, 13, 11, 10, 12);
    }

    /** With 10: what it answers, and THE TRACE. */
    private void act(int row, int act, int due, int... trace) {
        taken(due, y -> y.act(row, act, 10));
        asked(trace.length, y -> y.count(2));
        for (int i = 0; i < trace.length; i++) {
            int number = i;
            asked(trace[i], y -> y.trace(number));
        }
        asked(-1, y -> y.trace(trace.length));
    }

    private void bodies() {
        sentence(0, "BODIES, each with its number: ```text ROW: 10 go: x + p. 11 gap: go(x) * 3. 12 grow: x - n. "
                + "13 tell: gap(x) ^ grow(x). EVEN: 20 go: super.go(x) * 2. 21 grow: super.grow(x) + 7.");
        rowOfEachKind();
        act(0, 3, 39, 13, 11, 10, 12);
        act(1, 0, 26, 20, 10);
        act(1, 1, 78, 11, 20, 10);
        act(1, 2, 16, 21, 12);
        act(1, 3, 94, 13, 11, 20, 10, 21, 12);

        sentence(0, "RING: 30 gap: super.gap(x + 1). 31 tell: super.tell(x) - grow(x). "
                + "CUT: 40 go: super.go(x - p). 41 grow: super.grow(x) * 5. "
                + "POINTS: 50 grow: super.grow(x) ^ 9. 51 gap: super.gap(x) + super.go(x).");
        rowOfEachKind();
        act(2, 1, 72, 30, 11, 20, 10);
        act(2, 3, 56, 31, 13, 30, 11, 20, 10, 21, 12, 21, 12);
        act(3, 0, 10, 40, 10);
        act(3, 2, 35, 41, 12);
        act(4, 1, 104, 51, 11, 20, 10, 20, 10);
        act(4, 2, 4, 50, 21, 12);
    }

    private void supers() {
        sentence(0, "go(..) and so on: the body of the ROW's KIND, or, if that has none, of the next KIND above that "
                + "has one; super.go(..): so from the KIND above the body's on.");
        rowOfEachKind();
        // RING and POINTS have EVEN's go, CUT has ROW's gap; a body of ROW runs the go of the ROW's own KIND
        act(2, 0, 22, 20, 10);
        act(2, 2, 15, 21, 12);
        act(3, 1, 30, 11, 40, 10);
        act(3, 3, 61, 13, 11, 40, 10, 41, 12);
        act(4, 0, 26, 20, 10);
        act(4, 3, 108, 13, 51, 11, 20, 10, 20, 10, 50, 21, 12);
    }

    private void order() {
        sentence(0, "THE TRACE: the numbers of the bodies that ran in the latest act(), in the order in which they "
                + "began (what stands further left is worked out first);");
        rowOfEachKind();
        act(0, 3, 39, 13, 11, 10, 12);
        act(2, 3, 56, 31, 13, 30, 11, 20, 10, 21, 12, 21, 12);
        act(4, 1, 104, 51, 11, 20, 10, 20, 10);
        act(1, 2, 16, 21, 12);
    }

    private void status() {
        sentence(0, "STATUS of the latest call that is no question (slope, row, even, ring, cut, points, drop, sheet, "
                + "cell, act, forge): 0 done; 1 a number is none such or outside what is told; "
                + "2 there is no room; 3 it is not so (as told);");
        refused(1, y -> y.slope(0, 1, 1, 4));
        refused(1, y -> y.slope(1001, 0, 1, 0));
        fillSlopes();
        refused(2, y -> y.slope(1, 0, 1, 0));
        taken(7, y -> y.drop(1));
        refused(3, y -> y.slope(0, 0, 1, 0));
        fillRows();
        refused(2, y -> y.even(0, 0, 1));
        refused(2, y -> y.ring(1, 1));
        refused(2, y -> y.cut(0, 0, 1, 0, 1));
        refused(2, y -> y.points(0));

        sentence(0, "10 .. 15 the host refused it: 10 nothing where something is asked, 11 a thing of another sort or "
                + "KIND, 12 a place outside, 13 a size below 0, 14 a thing that does not fit, 15 divided by 0.");
        refused(10, y -> y.forge(0, 0, 0));
        refused(10, y -> y.cell(0, 0, 1));
        told(1, 2);
        refused(11, y -> y.forge(0, 1, 0));
        refused(11, y -> y.forge(3, 0, 3));
        refused(12, y -> y.forge(2, 2, 3));
        refused(12, y -> y.cell(3, 2, 1));
        refused(13, y -> y.forge(1, -1, 0));
        refused(14, y -> y.forge(4, 0, 0));
        refused(15, y -> y.forge(5, 0, 0));
    }

    private void none() {
        sentence(0, "NONE is -1; NO, where -1 may be an answer, -1000000.");
        asked(-1, y -> EvenSteps.NONE);
        asked(-1000000, y -> EvenSteps.NO);
        taken(0, y -> y.slope(9, 0, 10, 0));
        taken(0, y -> y.points(0));
        int zeros = told(0, 0);
        // -1 is an answer here
        asked(-1, y -> y.against(0, 1, 1));
        asked(-1, y -> y.gap(0, 3, 0, 1));
        asked(-1, y -> y.gap(0, 3, 1, 2));
        asked(-1, y -> y.range(zeros, 0, 2, 0));
        asked(NO, y -> y.against(0, 1, 0));
        asked(NO, y -> y.gap(0, 3, 2, 0));
        asked(NO, y -> y.range(zeros, 0, 3, 0));
    }
}
