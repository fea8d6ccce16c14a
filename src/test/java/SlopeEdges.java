/** Edges of SLOPES, and of what is asked about them. */
final class SlopeEdges extends Edges {
    SlopeEdges(Checks checks, Sentences sentences) {
        super(checks, sentences);
    }

    @Override
    void run() {
        room();
        numbersAbove();
        numbersBelow();
        roots();
        size();
        exact();
        statusOfSlope();
        wholes();
        against();
        quotients();
        nearers();
        within();
        digits();
        lines();
        share();
    }

    private void room() {
        sentence(0, "SLOPES 0 .. 7 are numbered as they come");
        for (int i = 0; i < 8; i++) {
            int number = i;
            asked(-1, y -> y.whole(number, 1));
            taken(number, y -> y.slope(number + 1, 0, 1, 0));
            asked(number + 1, y -> y.whole(number, 1));
        }
        refused(2, y -> y.slope(9, 0, 1, 0));
        asked(8, y -> y.count(0));
        asked(8, y -> y.whole(7, 1));
        asked(-1, y -> y.whole(8, 1));
        asked(-1, y -> y.whole(-1, 1));
        taken(7, y -> y.drop(1));
        taken(7, y -> y.slope(9, 0, 1, 0));
        asked(9, y -> y.whole(7, 1));
        refused(2, y -> y.slope(9, 0, 1, 0));
    }

    private void numbersAbove() {
        sentence(0, "with A -1000 .. 1000");
        taken(0, y -> y.slope(1000, 0, 50, 0));
        taken(1, y -> y.slope(1000, -20, 100, 50));
        refused(1, y -> y.slope(1001, 0, 100, 0));
        refused(1, y -> y.slope(1001, -20, 100, 50));
        refused(1, y -> y.slope(MOST, 0, 100, 0));
        // -1000 is such a number, but no root lifts it above 0
        refused(3, y -> y.slope(-1000, 20, 1, 50));
        refused(1, y -> y.slope(-1001, 20, 1, 50));
        refused(1, y -> y.slope(LEAST, 20, 1, 50));
        taken(2, y -> y.slope(-141, 20, 1, 50));

        sentence(0, "B -20 .. 20");
        taken(0, y -> y.slope(0, 20, 100, 2));
        asked(282, y -> y.whole(0, 1000));
        taken(1, y -> y.slope(100, -20, 100, 2));
        asked(717, y -> y.whole(1, 1000));
        refused(1, y -> y.slope(0, 21, 100, 2));
        refused(1, y -> y.slope(100, -21, 100, 2));
        refused(1, y -> y.slope(0, MOST, 100, 2));
        refused(1, y -> y.slope(0, LEAST, 100, 2));
    }

    private void numbersBelow() {
        sentence(0, "C 1 .. 100");
        taken(0, y -> y.slope(1, 0, 1, 0));
        taken(1, y -> y.slope(1, 1, 1, 2));
        taken(2, y -> y.slope(1, 0, 100, 0));
        taken(3, y -> y.slope(1, 1, 100, 2));
        asked(10, y -> y.whole(2, 1000));
        asked(24, y -> y.whole(3, 1000));
        for (int c : new int[] {0, -1, -100, 101, LEAST, MOST}) {
            refused(1, y -> y.slope(1, 0, c, 0));
            refused(1, y -> y.slope(1, 1, c, 2));
            refused(1, y -> y.slope(-1, 0, c, 0));
        }

        sentence(0, "D 2 .. 50");
        taken(0, y -> y.slope(0, 1, 1, 2));
        taken(1, y -> y.slope(0, 1, 1, 50));
        taken(2, y -> y.slope(8, -1, 1, 2));
        taken(3, y -> y.slope(8, -1, 1, 50));
        asked(1414, y -> y.whole(0, 1000));
        asked(7071, y -> y.whole(1, 1000));
        asked(6585, y -> y.whole(2, 1000));
        asked(928, y -> y.whole(3, 1000));
        for (int d : new int[] {1, 0, -1, -2, -50, 51, 64, LEAST, MOST}) {
            refused(1, y -> y.slope(1, 1, 1, d));
            refused(1, y -> y.slope(10, -1, 1, d));
        }

        sentence(0, "(B 0: a FRACTION; D does not matter then)");
        int[] any = {0, 1, -1, 4, 49, 51, LEAST, MOST};
        for (int i = 0; i < any.length; i++) {
            int number = i;
            taken(number, y -> y.slope(7, 0, 3, any[number]));
            asked(7, y -> y.whole(number, 3));
            asked(0, y -> y.against(number, 7, 3));
            asked(-1, y -> y.quotient(number, 2));
        }
    }

    private void roots() {
        sentence(0, "If B is not 0, D is no square: it is a ROOT SLOPE.");
        for (int b = -1; b <= 1; b += 2) {
            int times = b;
            for (int d = 2; d <= 50; d++) {
                int root = d;
                if (d == 4 || d == 9 || d == 16 || d == 25 || d == 36 || d == 49) {
                    refused(1, y -> y.slope(10, times, 1, root));
                } else {
                    taken(0, y -> y.slope(10, times, 1, root));
                    taken(0, y -> y.drop(1));
                }
            }
            anew();
        }
    }

    private void size() {
        sentence(0, "that are above 0 and at most 20");
        refused(3, y -> y.slope(0, 0, 1, 0));
        refused(3, y -> y.slope(0, 0, 100, 0));
        refused(3, y -> y.slope(-1, 0, 100, 0));
        taken(0, y -> y.slope(1, 0, 100, 0));
        taken(1, y -> y.slope(20, 0, 1, 0));
        taken(2, y -> y.slope(1000, 0, 50, 0));
        taken(3, y -> y.slope(979, 0, 49, 0));
        refused(3, y -> y.slope(981, 0, 49, 0));
        refused(3, y -> y.slope(21, 0, 1, 0));
        // 14 roots of 50 are 98.99494..
        taken(4, y -> y.slope(99, -14, 100, 50));
        refused(3, y -> y.slope(-99, 14, 100, 50));
        taken(5, y -> y.slope(-79, 14, 1, 50));
        refused(3, y -> y.slope(119, -14, 1, 50));
        refused(3, y -> y.slope(0, -1, 1, 2));
        refused(3, y -> y.slope(1000, 20, 1, 50));
        refused(3, y -> y.slope(-1000, -20, 1, 50));
        asked(6, y -> y.count(0));
    }

    private void exact() {
        sentence(0, "All is exact.");
        taken(0, y -> y.slope(0, 1, 1, 2));
        taken(1, y -> y.slope(99, -14, 100, 50));
        taken(2, y -> y.slope(0, 1, 1, 3));
        // 47321 / 33461 is below, 114243 / 80782 above the root of 2, both by less than 1 in a thousand million
        asked(47321, y -> y.whole(0, 33461));
        asked(114242, y -> y.whole(0, 80782));
        asked(-1, y -> y.against(0, 3363, 2378));
        asked(1, y -> y.against(0, 8119, 5741));
        asked(5, y -> y.whole(1, 100000));
        // 1 by this slope is 99 and 14 roots of 50, times 100: 19799.49494..
        asked(0, y -> y.whole(1, 19799));
        asked(1, y -> y.whole(1, 19800));
        asked(-1, y -> y.against(2, 5042, 2911));
        asked(1, y -> y.against(2, 13775, 7953));

        sentence(0, "WHOLE of a number is the greatest whole number that is not above it");
        taken(0, y -> y.slope(3, 0, 8, 0));
        taken(1, y -> y.slope(2, 0, 1, 0));
        askedEach((y, n) -> y.whole(0, n), 0, 0, 0, 1, 1, 1, 2, 2, 3, 3);
        askedEach((y, n) -> y.whole(1, n), 0, 2, 4);
        asked(37500, y -> y.whole(0, 100000));
        asked(37499, y -> y.whole(0, 99999));
    }

    private void statusOfSlope() {
        sentence(2, "A SLOPE: its number. STATUS 1 (also a square D with B not 0), 2, "
                + "3 (it is not above 0, or above 20).");
        refused(1, y -> y.slope(1, 1, 1, 4));
        refused(1, y -> y.slope(1, -1, 1, 49));
        refused(1, y -> y.slope(-1001, 0, 1, 0));
        refused(1, y -> y.slope(-1000, 1, 1, 4));
        refused(1, y -> y.slope(500, 21, 1, 2));
        refused(3, y -> y.slope(-1, 0, 1, 0));
        refused(3, y -> y.slope(500, 20, 1, 2));
        fillSlopes();
        refused(2, y -> y.slope(1, 0, 1, 0));
        refused(2, y -> y.slope(-1, 0, 1, 0));
        refused(2, y -> y.slope(500, 20, 1, 2));
        refused(1, y -> y.slope(1, 1, 1, 4));
        refused(1, y -> y.slope(1, 0, 0, 0));
        refused(1, y -> y.slope(-1001, 0, 1, 0));
        taken(7, y -> y.drop(1));
        refused(3, y -> y.slope(-1, 0, 1, 0));
        taken(7, y -> y.slope(1, 0, 1, 0));
    }

    private void wholes() {
        sentence(10, "WHOLE of a SLOPE times n (0 .. 100000). -1: no such.");
        asked(-1, y -> y.whole(0, 1));
        taken(0, y -> y.slope(20, 0, 1, 0));
        taken(1, y -> y.slope(1, 1, 2, 5));
        asked(0, y -> y.whole(0, 0));
        asked(0, y -> y.whole(1, 0));
        asked(1, y -> y.whole(1, 1));
        asked(2000000, y -> y.whole(0, 100000));
        asked(161803, y -> y.whole(1, 100000));
        asked(-1, y -> y.whole(0, 100001));
        asked(-1, y -> y.whole(0, MOST));
        asked(-1, y -> y.whole(0, -1));
        asked(-1, y -> y.whole(0, LEAST));
        asked(-1, y -> y.whole(2, 1));
        asked(-1, y -> y.whole(7, 1));
        asked(-1, y -> y.whole(-1, 1));
        asked(-1, y -> y.whole(MOST, 1));
        asked(-1, y -> y.whole(LEAST, 1));
    }

    private void against() {
        sentence(11, "Whether a SLOPE is less than (-1), is (0), more than (1) a fraction p / q "
                + "(q 1 .. 10000, p 0 .. 200000). NO: no such.");
        asked(NO, y -> y.against(0, 1, 1));
        taken(0, y -> y.slope(20, 0, 1, 0));
        taken(1, y -> y.slope(1, 0, 100, 0));
        asked(0, y -> y.against(0, 20, 1));
        asked(1, y -> y.against(0, 19, 1));
        asked(-1, y -> y.against(0, 21, 1));
        asked(0, y -> y.against(0, 200000, 10000));
        asked(1, y -> y.against(0, 199999, 10000));
        asked(-1, y -> y.against(0, 200000, 9999));
        asked(-1, y -> y.against(0, 200000, 1));
        asked(1, y -> y.against(0, 0, 1));
        asked(1, y -> y.against(1, 0, 10000));
        asked(0, y -> y.against(1, 100, 10000));
        asked(1, y -> y.against(1, 99, 10000));
        asked(-1, y -> y.against(1, 101, 10000));
        for (int q : new int[] {0, -1, 10001, LEAST, MOST}) {
            asked(NO, y -> y.against(0, 1, q));
        }
        for (int p : new int[] {-1, 200001, LEAST, MOST}) {
            asked(NO, y -> y.against(0, p, 1));
        }
        for (int slope : new int[] {-1, 2, 8, LEAST, MOST}) {
            asked(NO, y -> y.against(slope, 1, 1));
        }
    }

    private void quotients() {
        sentence(0, "the WHOLE of it; if it has a PART, then those of 1 by the PART; at most 20.");
        taken(0, y -> y.slope(20, 0, 1, 0));
        taken(1, y -> y.slope(1, 0, 100, 0));
        taken(2, y -> y.slope(1, 1, 2, 5));
        taken(3, y -> y.slope(99, -14, 100, 50));
        taken(4, y -> y.slope(987, 0, 61, 0));
        askedEach((y, i) -> y.quotient(0, i), 20, -1, -1);
        askedEach((y, i) -> y.quotient(1, i), 0, 100, -1, -1);
        askedEach((y, i) -> y.quotient(2, i), 1, 1, 1, 1, 1, 1, 1, 1, 1, 1, 1, 1, 1, 1, 1, 1, 1, 1, 1, 1, -1, -1);
        askedEach((y, i) -> y.quotient(3, i), 0, 19799);
        askedEach((y, i) -> y.quotient(4, i), 16, 5, 1, 1, 5, -1);
        taken(5, y -> y.slope(3, -1, 1, 2));
        askedEach((y, i) -> y.quotient(5, i), 1, 1, 1, 2, 2, 2);

        sentence(12, "QUOTIENT i of a SLOPE. -1: none such.");
        asked(-1, y -> y.quotient(0, 0));
        taken(0, y -> y.slope(0, 1, 1, 7));
        asked(2, y -> y.quotient(0, 0));
        asked(1, y -> y.quotient(0, 19));
        for (int i : new int[] {-1, 20, LEAST, MOST}) {
            asked(-1, y -> y.quotient(0, i));
        }
        for (int slope : new int[] {-1, 1, 8, LEAST, MOST}) {
            asked(-1, y -> y.quotient(slope, 0));
        }
    }

    private void nearers() {
        sentence(0, "NEARERS: the numbers n from 1 to 2000 for which s n is nearer to a whole number");
        taken(0, y -> y.slope(9, 1, 51, 6));
        taken(1, y -> y.slope(5, 3, 7, 12));
        askedEach((y, i) -> y.nearer(0, i), nearersBySearch(9, 1, 51, 6));
        askedEach((y, i) -> y.nearer(1, i), nearersBySearch(5, 3, 7, 12));
        // one of them has 2000 itself, the other would have 2001 next
        asked(2000, y -> y.nearer(0, nearersBySearch(9, 1, 51, 6).length - 2));
        asked(2001, y -> y.line(1, nearersBySearch(5, 3, 7, 12).length - 1));

        sentence(0, "(1 is the first one)");
        taken(0, y -> y.slope(1, 0, 2, 0));
        taken(1, y -> y.slope(5, 0, 1, 0));
        taken(2, y -> y.slope(1, 0, 100, 0));
        taken(3, y -> y.slope(99, 0, 100, 0));
        taken(4, y -> y.slope(1, 0, 3, 0));
        taken(5, y -> y.slope(2, 0, 3, 0));
        askedEach((y, i) -> y.nearer(0, i), 1, 2, -1);
        askedEach((y, i) -> y.nearer(1, i), 1, -1);
        askedEach((y, i) -> y.nearer(2, i), 1, 100, -1);
        askedEach((y, i) -> y.nearer(3, i), 1, 100, -1);
        askedEach((y, i) -> y.nearer(4, i), 1, 3, -1);
        askedEach((y, i) -> y.nearer(5, i), 1, 3, -1);

        sentence(13, "The i-th of NEARERS (from 0). -1: none such.");
        asked(-1, y -> y.nearer(0, 0));
        taken(0, y -> y.slope(-1, 1, 2, 5));
        askedEach((y, i) -> y.nearer(0, i), 1, 2, 3, 5, 8, 13, 21, 34, 55, 89, 144, 233, 377, 610, 987, 1597, -1, -1,
                -1, -1, -1);
        for (int i : new int[] {-1, LEAST, MOST}) {
            asked(-1, y -> y.nearer(0, i));
        }
        for (int slope : new int[] {-1, 1, 8, LEAST, MOST}) {
            asked(-1, y -> y.nearer(slope, 0));
        }
    }

    /** All of them up to 2000 and then -1; a double is good enough for the slopes that are told here. */
    private static long[] nearersBySearch(int a, int b, int c, int d) {
        double s = (a + b * Math.sqrt(d)) / c;
        double nearest = 1;
        long[] found = new long[30];
        int count = 0;
        for (int n = 1; n <= 2000; n++) {
            double away = Math.abs(s * n - Math.rint(s * n));
            if (away < nearest) {
                nearest = away;
                found[count] = n;
                count++;
            }
        }
        found[count] = -1;
        return java.util.Arrays.copyOf(found, count + 1);
    }

    private void within() {
        sentence(14, "The least n from 1 to 2000 such that the PART of the SLOPE times n");
        taken(0, y -> y.slope(0, 1, 10, 6));
        taken(1, y -> y.slope(0, 1, 1, 2));
        taken(2, y -> y.slope(20, 0, 1, 0));
        asked(2000, y -> y.within(0, 897, 898, 1000));
        asked(-1, y -> y.within(0, 142, 143, 1000));
        asked(1, y -> y.within(1, 414, 415, 1000));
        asked(1, y -> y.within(1, 0, 1, 1));
        asked(1, y -> y.within(2, 0, 1, 1000));
        asked(-1, y -> y.within(2, 1, 1000, 1000));

        sentence(14, "is at least p / q and below r / q");
        taken(0, y -> y.slope(3, 0, 8, 0));
        asked(1, y -> y.within(0, 3, 4, 8));
        asked(1, y -> y.within(0, 375, 376, 1000));
        asked(-1, y -> y.within(0, 374, 375, 1000));
        asked(-1, y -> y.within(0, 376, 500, 1000));
        asked(4, y -> y.within(0, 376, 501, 1000));
        asked(8, y -> y.within(0, 0, 1, 8));
        asked(8, y -> y.within(0, 0, 1, 1000));
        asked(-1, y -> y.within(0, 3, 3, 8));
        asked(-1, y -> y.within(0, 4, 3, 8));
        asked(-1, y -> y.within(0, 8, 8, 8));
        asked(-1, y -> y.within(0, 0, 0, 8));

        sentence(14, "(q 1 .. 1000, 0 to q). -1: there is none, or no such.");
        asked(-1, y -> y.within(0, 0, 1, 1));
        taken(0, y -> y.slope(-1, 1, 2, 5));
        asked(1, y -> y.within(0, 0, 1, 1));
        asked(1, y -> y.within(0, 0, 1000, 1000));
        asked(987, y -> y.within(0, 999, 1000, 1000));
        asked(1, y -> y.within(0, 600, 700, 1000));
        asked(-1, y -> y.within(0, 1000, 1000, 1000));
        asked(-1, y -> y.within(0, 0, 1001, 1001));
        for (int q : new int[] {0, -1, 1001, LEAST, MOST}) {
            asked(-1, y -> y.within(0, 0, 1, q));
            asked(-1, y -> y.within(0, 0, 0, q));
        }
        for (int p : new int[] {-1, -8, LEAST}) {
            asked(-1, y -> y.within(0, p, 8, 8));
            asked(-1, y -> y.within(0, p, p, 8));
            asked(-1, y -> y.within(0, 0, p, 8));
        }
        for (int r : new int[] {9, 16, MOST}) {
            asked(-1, y -> y.within(0, 0, r, 8));
            asked(-1, y -> y.within(0, r, 8, 8));
        }
        for (int slope : new int[] {-1, 1, 8, LEAST, MOST}) {
            asked(-1, y -> y.within(slope, 0, 1, 1));
        }
    }

    private void digits() {
        sentence(0, "DIGITS of a number N (0 .. 10000) by a SLOPE");
        taken(0, y -> y.slope(-1, 1, 2, 5));
        taken(1, y -> y.slope(5, 0, 1, 0));
        asked(0, y -> y.digit(0, 0, 0));
        asked(0, y -> y.digit(0, 0, 18));
        asked(1, y -> y.digit(0, 1, 0));
        asked(1, y -> y.digit(0, 10000, 18));
        asked(0, y -> y.digit(0, 10000, 17));
        asked(1, y -> y.digit(0, 10000, 16));
        asked(0, y -> y.digit(1, 0, 0));
        asked(10000, y -> y.digit(1, 10000, 0));
        for (int number : new int[] {-1, 10001, LEAST, MOST}) {
            asked(-1, y -> y.digit(0, number, 0));
            asked(-1, y -> y.digit(1, number, 0));
        }

        sentence(0, "(a LINE that is 1 twice counts once, as the further one)");
        taken(0, y -> y.slope(2, 0, 3, 0));
        taken(1, y -> y.slope(1, 1, 2, 5));
        taken(2, y -> y.slope(99, 0, 100, 0));
        askedEach((y, i) -> y.line(0, i), 1, 3, -1);
        askedEach((y, i) -> y.line(1, i), 1, 2, 3, 5);
        askedEach((y, i) -> y.line(2, i), 1, 100, -1);
        askedEach((y, i) -> y.digit(0, 5, i), 2, 1, -1);
        askedEach((y, i) -> y.digit(1, 4, i), 1, 0, 1, 0);
        askedEach((y, i) -> y.digit(2, 9999, i), 99, 99, -1);

        sentence(15, "DIGIT of a number by a SLOPE for its i-th LINE (from the lowest, 0). -1: none such.");
        asked(-1, y -> y.digit(0, 1, 0));
        taken(0, y -> y.slope(3, 0, 8, 0));
        askedEach((y, i) -> y.digit(0, 10000, i), 0, 0, 0, 1250, -1, -1);
        askedEach((y, i) -> y.digit(0, 7, i), 1, 0, 2, 0, -1);
        for (int i : new int[] {-1, 20, LEAST, MOST}) {
            asked(-1, y -> y.digit(0, 1, i));
        }
        for (int slope : new int[] {-1, 1, 8, LEAST, MOST}) {
            asked(-1, y -> y.digit(slope, 1, 0));
        }
    }

    private void lines() {
        sentence(0, "as far as they are at most 10000");
        taken(0, y -> y.slope(65, 11, 86, 47));
        taken(1, y -> y.slope(17, 5, 98, 47));
        askedEach((y, i) -> y.line(0, i), linesOf(65, 11, 86, 47));
        askedEach((y, i) -> y.line(1, i), linesOf(17, 5, 98, 47));
        // one of them has 10000 itself, the other would have 10001 next
        asked(10000, y -> y.line(0, linesOf(65, 11, 86, 47).length - 2));
        taken(2, y -> y.slope(99, -14, 100, 50));
        askedEach((y, i) -> y.line(2, i), 1, -1, -1);

        sentence(16, "The i-th LINE of a SLOPE. -1: none such.");
        asked(-1, y -> y.line(0, 0));
        taken(0, y -> y.slope(-1, 1, 2, 5));
        taken(1, y -> y.slope(5, 0, 1, 0));
        askedEach((y, i) -> y.line(0, i), 1, 2, 3, 5, 8, 13, 21, 34, 55, 89, 144, 233, 377, 610, 987, 1597, 2584, 4181,
                6765, -1, -1);
        askedEach((y, i) -> y.line(1, i), 1, -1);
        for (int i : new int[] {-1, 20, LEAST, MOST}) {
            asked(-1, y -> y.line(0, i));
        }
        for (int slope : new int[] {-1, 2, 8, LEAST, MOST}) {
            asked(-1, y -> y.line(slope, 0));
        }
    }

    /** All of them and then -1; a double is good enough for the slopes that are told here. */
    private static long[] linesOf(int a, int b, int c, int d) {
        double s = (a + b * Math.sqrt(d)) / c;
        long[] found = new long[30];
        int count = 0;
        long before = 0;
        long line = 1;
        while (line <= 10000) {
            if (count == 0 || found[count - 1] != line) {
                found[count] = line;
                count++;
            }
            s = 1 / (s - Math.floor(s));
            long next = (long) Math.floor(s) * line + before;
            before = line;
            line = next;
        }
        found[count] = -1;
        return java.util.Arrays.copyOf(found, count + 1);
    }

    private void share() {
        sentence(27, "Whether the WHOLES of two SLOPES' multiples (1, 2, 3 .. times) share out all numbers "
                + "from 1 on, each told just once: 0;");
        taken(0, y -> y.slope(1, 1, 2, 5));
        taken(1, y -> y.slope(3, 1, 2, 5));
        taken(2, y -> y.slope(0, 1, 1, 2));
        taken(3, y -> y.slope(2, 1, 1, 2));
        taken(4, y -> y.slope(2, 0, 1, 0));
        taken(5, y -> y.slope(1, 0, 1, 0));
        asked(0, y -> y.share(0, 1));
        asked(0, y -> y.share(1, 0));
        asked(0, y -> y.share(2, 3));
        // 1 is not told at all; 1 is told twice; all are told, but 2 is told twice
        asked(1, y -> y.share(4, 4));
        asked(1, y -> y.share(3, 3));
        asked(1, y -> y.share(0, 0));
        asked(1, y -> y.share(5, 5));
        asked(2, y -> y.share(4, 5));
        // 2 roots of 8, by 4, are the root of 2
        taken(6, y -> y.slope(0, 2, 4, 8));
        asked(0, y -> y.share(6, 3));
        asked(0, y -> y.share(3, 6));
        asked(1, y -> y.share(6, 2));

        sentence(27, "the least number that is told twice or not at all, up to 5000 (-2: there is none up to there)");
        taken(0, y -> y.slope(224, 15, 66, 50));
        taken(1, y -> y.slope(23, 14, 96, 48));
        taken(2, y -> y.slope(7, 18, 70, 20));
        taken(3, y -> y.slope(565, -18, 100, 13));
        taken(4, y -> y.slope(147, 9, 27, 38));
        taken(5, y -> y.slope(110, 1, 100, 29));
        taken(6, y -> y.slope(-41, 14, 16, 27));
        taken(7, y -> y.slope(176, -8, 70, 19));
        asked(5000, y -> y.share(0, 1));
        asked(5000, y -> y.share(1, 0));
        asked(5000, y -> y.share(2, 3));
        asked(-2, y -> y.share(4, 5));
        asked(-2, y -> y.share(5, 4));
        asked(-2, y -> y.share(6, 7));

        sentence(27, "else the least number that is told twice or not at all");
        taken(0, y -> y.slope(1, 0, 2, 0));
        taken(1, y -> y.slope(51, 0, 100, 0));
        taken(2, y -> y.slope(20, 0, 1, 0));
        taken(3, y -> y.slope(20, 0, 19, 0));
        taken(4, y -> y.slope(1, 0, 100, 0));
        taken(5, y -> y.slope(2, 0, 3, 0));
        taken(6, y -> y.slope(1, 0, 1, 0));
        taken(7, y -> y.slope(3, 0, 2, 0));
        // a half tells 1 and 2 twice; 51 / 100 tells 1 twice; two thirds tell 1 once, 2 twice
        asked(1, y -> y.share(0, 2));
        asked(1, y -> y.share(2, 0));
        asked(1, y -> y.share(1, 2));
        asked(1, y -> y.share(2, 1));
        asked(1, y -> y.share(4, 4));
        asked(1, y -> y.share(4, 6));
        asked(1, y -> y.share(7, 4));
        asked(1, y -> y.share(0, 6));
        asked(1, y -> y.share(7, 0));
        asked(2, y -> y.share(5, 2));
        asked(2, y -> y.share(2, 5));
        asked(19, y -> y.share(2, 3));
        asked(19, y -> y.share(3, 2));
        anew();
        // pairs that would share out all numbers, were a root another one, or left out, or the rest left out
        taken(0, y -> y.slope(1, 1, 2, 5));
        taken(1, y -> y.slope(3, 1, 2, 6));
        taken(2, y -> y.slope(0, 1, 1, 2));
        taken(3, y -> y.slope(3, 1, 2, 2));
        taken(4, y -> y.slope(2, 1, 1, 2));
        taken(5, y -> y.slope(4, 1, 3, 2));
        asked(7, y -> y.share(0, 1));
        asked(7, y -> y.share(1, 0));
        asked(2, y -> y.share(2, 3));
        asked(2, y -> y.share(4, 5));

        sentence(27, "-1: no such.");
        asked(-1, y -> y.share(0, 0));
        taken(0, y -> y.slope(1, 1, 2, 5));
        asked(1, y -> y.share(0, 0));
        for (int slope : new int[] {-1, 1, 8, LEAST, MOST}) {
            asked(-1, y -> y.share(slope, 0));
            asked(-1, y -> y.share(0, slope));
        }
    }
}
