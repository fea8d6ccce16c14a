/** Edges of STRETCHES: whether they are EVEN, THE CLASH, THE RANGE, and unlike ones. */
final class StretchEdges extends Edges {
    StretchEdges(Checks checks, Sentences sentences) {
        super(checks, sentences);
    }

    @Override
    void run() {
        lengths();
        ends();
        even();
        clash();
        range();
        noRange();
        parts();
        partPlaces();
    }

    private void lengths() {
        sentence(0, "A STRETCH is n STEPS (1 to 40) of a ROW from a place on.");
        taken(0, y -> y.slope(-1, 1, 2, 5));
        taken(0, y -> y.even(0, 0, 1));
        int row = told(0, 9);
        asked(1, y -> y.isEven(0, 0, 1));
        asked(1, y -> y.isEven(0, 0, 40));
        asked(0, y -> y.clash(row, 0, 2, 1));
        asked(0, y -> y.range(0, 1, 1, 0));
        asked(8, y -> y.range(0, 0, 40, 0));
        for (int n : new int[] {0, -1, 41, LEAST, MOST}) {
            asked(-1, y -> y.isEven(0, 0, n));
            asked(-1, y -> y.clash(row, 0, n, 0));
            asked(NO, y -> y.range(0, 0, n, 0));
        }
        for (int from : new int[] {-1, -40, 10001, LEAST, MOST, MOST - 40}) {
            asked(-1, y -> y.isEven(0, from, 40));
            asked(-1, y -> y.isEven(0, from, 1));
            asked(-1, y -> y.clash(row, from, 2, 0));
            asked(NO, y -> y.range(0, from, 40, 0));
        }
    }

    private void ends() {
        sentence(20, "Whether a STRETCH is EVEN: 1, 0. -1: a STEP lacks, or no such.");
        asked(-1, y -> y.isEven(0, 0, 1));
        taken(0, y -> y.ring(5, 8));
        taken(1, y -> y.cut(0, 0, 1, 1, 1));
        int row = told(1, 1, 0, 0);
        for (int i = 0; i < 2; i++) {
            int each = i;
            asked(1, y -> y.isEven(each, 9961, 40));
            asked(-1, y -> y.isEven(each, 9962, 40));
            asked(1, y -> y.isEven(each, 10000, 1));
            asked(-1, y -> y.isEven(each, 10000, 2));
            asked(-1, y -> y.isEven(each, 10001, 1));
        }
        asked(0, y -> y.isEven(row, 0, 4));
        asked(-1, y -> y.isEven(row, 0, 5));
        asked(1, y -> y.isEven(row, 1, 3));
        asked(-1, y -> y.isEven(row, 1, 4));
        asked(1, y -> y.isEven(row, 3, 1));
        asked(-1, y -> y.isEven(row, 4, 1));
        for (int none : new int[] {-1, 3, 10, LEAST, MOST}) {
            asked(-1, y -> y.isEven(none, 0, 1));
        }
    }

    private void even() {
        sentence(0, "It is EVEN if for any two stretches within it of the same length the sums differ by at most 1");
        int steps = told(5, 6, 5, 7);
        asked(1, y -> y.isEven(steps, 0, 3));
        asked(0, y -> y.isEven(steps, 0, 4));
        asked(0, y -> y.isEven(steps, 2, 2));
        asked(1, y -> y.isEven(steps, 3, 1));
        // of length 2: 2, 1, 0; and 2, 1, 1
        int pairs = told(1, 1, 0, 0, 1, 1, 0, 1);
        asked(0, y -> y.isEven(pairs, 0, 4));
        asked(1, y -> y.isEven(pairs, 0, 3));
        asked(1, y -> y.isEven(pairs, 4, 4));
        // of half its length the two ends alone differ by 2
        int halves = told(1, 0, 1, 1, 0, 1, 0, 1, 0, 0);
        asked(0, y -> y.isEven(halves, 0, 10));
        asked(1, y -> y.isEven(halves, 0, 9));
        int forty = forty(1, 39);
        asked(1, y -> y.isEven(forty, 0, 40));
        int twice = forty(1, 1);
        asked(0, y -> y.isEven(twice, 0, 40) + y.isEven(twice, 0, 39));
    }

    /** A ROW of 40 told steps, which are 0 but for the first and the one at a place. */
    private int forty(int step, int place) {
        taken(1, y -> y.sheet(2, 0, 40));
        taken(1, y -> y.cell(2, 0, step));
        taken(1, y -> y.cell(2, place, step));
        int[] number = new int[1];
        asked(0, y -> {
            number[0] = y.count(1);
            return 0;
        });
        taken(number[0], y -> y.row(2, 0, 40));
        return number[0];
    }

    private void clash() {
        sentence(0, "of the least length, then the one that begins first, then the other one");
        // a pair of places clashes at 1, though stretches of 2 clash ahead of it
        int row = told(1, 1, 0, 0, 1, 2, 0);
        clash(row, 0, 4, 2, 0, 2);
        clash(row, 0, 7, 1, 2, 5);
        clash(row, 4, 3, 1, 5, 6);
        // 2 clashes with 4 and 0, 3 with 1
        int many = told(2, 3, 1, 4, 0, 4);
        clash(many, 0, 6, 1, 0, 3);
        clash(many, 0, 3, 1, 1, 2);
        clash(many, 1, 5, 1, 1, 2);
        clash(many, 2, 4, 1, 2, 3);
        clash(many, 3, 3, 1, 3, 4);

        sentence(21, "THE CLASH of a STRETCH: 0 the length, 1 where the first begins (a place of the ROW), "
                + "2 where the other one does. -1: it is EVEN, or no such.");
        asked(-1, y -> y.clash(0, 0, 2, 0));
        int two = told(7, 3, 5, 5);
        clash(two, 0, 2, 1, 0, 1);
        clash(two, 1, 2, 1, 1, 2);
        clash(two, 2, 2, -1, -1, -1);
        clash(two, 0, 1, -1, -1, -1);
        clash(two, 2, 3, -1, -1, -1);
        clash(two, -1, 2, -1, -1, -1);
        clash(two, 0, 0, -1, -1, -1);
        clash(two, 0, 41, -1, -1, -1);
        for (int what : new int[] {-1, 3, LEAST, MOST}) {
            asked(-1, y -> y.clash(two, 0, 2, what));
        }
        for (int none : new int[] {-1, 1, 10, LEAST, MOST}) {
            asked(-1, y -> y.clash(none, 0, 2, 0));
        }
        anew();
        int last = told(0, 0, 2);
        taken(1, y -> y.ring(1, 1));
        taken(2, y -> y.cut(1, 0, 1, 51, 6));
        clash(last, 0, 3, 1, 0, 2);
        // 1 1 0 0 1 1 again and again: 1 1 at 9960 and 0 0 at 9962, round to the last place
        clash(2, 9960, 40, 2, 9960, 9962);
        clash(2, 9961, 40, 2, 9962, 9964);
        clash(2, 9962, 40, -1, -1, -1);
        clash(2, 9996, 5, 2, 9996, 9998);
    }

    private void range() {
        sentence(0, "they are those that are above one fraction and below another one "
                + "(in lowest terms, below the line above 0), if there are any");
        int row = told(0, 100, 2, 2, 2, 2);
        range(row, 0, 1, -1, 1, 1, 1);
        range(row, 1, 1, 99, 1, 101, 1);
        range(row, 2, 1, 1, 1, 3, 1);
        range(row, 2, 2, 3, 2, 5, 2);
        range(row, 2, 4, 7, 4, 9, 4);
        int zeros = told(0, 0, 0, 0, 1, 0, 0);
        range(zeros, 0, 2, -1, 2, 1, 2);
        range(zeros, 0, 4, -1, 4, 1, 4);
        range(zeros, 0, 5, 0, 1, 1, 4);
        range(zeros, 4, 3, 0, 1, 1, 2);
        range(zeros, 3, 4, 0, 1, 1, 2);
        int waves = told(0, 1, 0, 1, 0, 1);
        range(waves, 0, 6, 2, 5, 3, 5);
        range(waves, 0, 2, 0, 1, 1, 1);

        sentence(0, "all numbers s such that with some number t, for all i from 0 to n, "
                + "WHOLE of s i + t is the sum of its first i STEPS");
        taken(0, y -> y.slope(-1, 1, 2, 5));
        taken(0, y -> y.even(0, 0, 1));
        taken(1, y -> y.ring(1, 60));
        taken(2, y -> y.ring(1, 1));
        range(0, 0, 10, 4, 7, 5, 8);
        range(0, 9961, 40, 8, 13, 18, 29);
        range(1, 0, 40, -1, 40, 1, 40);
        range(1, 20, 40, 0, 1, 1, 39);
        range(2, 0, 40, 39, 40, 41, 40);
    }

    private void noRange() {
        sentence(22, "THE RANGE of a STRETCH: 0, 1 the lower fraction's number above and below the line, "
                + "2, 3 the upper one's. NO: there is none such number, or no such.");
        asked(NO, y -> y.range(0, 0, 1, 0));
        // of 1 1 0 0 the sums want 1 / 2 itself, which is not between; of 1 1 0 0 0 nothing is left
        int row = told(1, 1, 0, 0, 0, 2);
        range(row, 0, 3, 1, 2, 1, 1);
        none(row, 0, 4);
        none(row, 0, 5);
        none(row, 4, 2);
        range(row, 5, 1, 1, 1, 3, 1);
        none(row, 5, 2);
        none(row, 6, 1);
        none(row, -1, 2);
        none(row, 0, 0);
        none(row, 0, 41);
        for (int what : new int[] {-1, 4, LEAST, MOST}) {
            asked(NO, y -> y.range(row, 0, 1, what));
        }
        for (int no : new int[] {-1, 1, 10, LEAST, MOST}) {
            asked(NO, y -> y.range(no, 0, 1, 0));
        }
        taken(1, y -> y.ring(1, 1));
        range(1, 10000, 1, 0, 1, 2, 1);
        none(1, 10000, 2);
        none(1, 10001, 1);
    }

    private void none(int row, int from, int n) {
        range(row, from, n, NO, NO, NO, NO);
    }

    private void parts() {
        sentence(23, "How many unlike stretches of a length (1 .. 12) of a ROW");
        taken(0, y -> y.slope(-1, 1, 2, 5));
        taken(0, y -> y.even(0, 0, 1));
        asked(2, y -> y.parts(0, 1, 0));
        asked(13, y -> y.parts(0, 12, 0));
        for (int length : new int[] {0, -1, 13, LEAST, MOST}) {
            asked(-1, y -> y.parts(0, length, 0));
            asked(-1, y -> y.parts(0, length, 1));
        }

        sentence(23, "how many of these read alike backward: 1. -1: no such.");
        asked(-1, y -> y.parts(0, 1, 0));
        int row = told(1, 2, 1, 1, 2, 1, 3, 3);
        // 1 2, 2 1, 1 1, 1 3, 3 3
        asked(5, y -> y.parts(row, 2, 0));
        asked(2, y -> y.parts(row, 2, 1));
        asked(3, y -> y.parts(row, 1, 0));
        asked(3, y -> y.parts(row, 1, 1));
        asked(1, y -> y.parts(row, 6, 1));
        asked(1, y -> y.parts(row, 8, 0));
        asked(0, y -> y.parts(row, 8, 1));
        for (int what : new int[] {-1, 2, LEAST, MOST}) {
            asked(-1, y -> y.parts(row, 1, what));
        }
        for (int none : new int[] {-1, 1, 10, LEAST, MOST}) {
            asked(-1, y -> y.parts(none, 1, 0));
        }
    }

    private void partPlaces() {
        sentence(23, "begin at its places 0 .. 199 (as far as they do not lack): what 0;");
        taken(1, y -> y.sheet(0, 1, 34));
        taken(1, y -> y.cell(0, 33, 1));
        taken(0, y -> y.row(0, 1, 34));
        // 199 and 200 times 0, and then a 1, which is the last
        taken(1, y -> y.cut(0, 0, 6, 2, 2));
        taken(2, y -> y.cut(0, 0, 6, 4, 3));
        asked(2, y -> y.parts(1, 1, 0));
        asked(1, y -> y.parts(2, 1, 0));
        asked(2, y -> y.parts(1, 2, 0));
        asked(2, y -> y.parts(2, 2, 0));
        asked(1, y -> y.parts(2, 2, 1));
        int few = told(4, 5, 6);
        asked(3, y -> y.parts(few, 1, 0));
        asked(2, y -> y.parts(few, 2, 0));
        asked(1, y -> y.parts(few, 3, 0));
        asked(0, y -> y.parts(few, 4, 0));
        asked(0, y -> y.parts(few, 4, 1));
        asked(0, y -> y.parts(few, 12, 0));
        int other = told(2, 0);
        taken(5, y -> y.cut(other, 0, 1, 0, 1));
        asked(0, y -> y.parts(5, 1, 0));
        asked(0, y -> y.parts(5, 1, 1));
        anew();
        // 210 and 211 times 0, and then a 1: a stretch of 12 that begins at 199 ends at 210
        taken(1, y -> y.sheet(0, 1, 36));
        taken(1, y -> y.cell(0, 35, 1));
        taken(0, y -> y.row(0, 1, 36));
        taken(1, y -> y.cut(0, 0, 6, 1, 1));
        taken(2, y -> y.cut(0, 0, 6, 2, 2));
        asked(1, y -> y.step(1, 210));
        asked(1, y -> y.step(2, 211));
        asked(2, y -> y.parts(1, 12, 0));
        asked(1, y -> y.parts(1, 12, 1));
        asked(1, y -> y.parts(1, 11, 0));
        asked(1, y -> y.parts(2, 12, 0));
    }
}
