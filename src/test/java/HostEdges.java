/** Edges of ACTS and THE TRACE, of SHEETS, of what the host refuses, and of STATUS. */
final class HostEdges extends Edges {
    HostEdges(Checks checks, Sentences sentences) {
        super(checks, sentences);
    }

    @Override
    void run() {
        acts();
        statusOfAct();
        trace();
        sheets();
        cells();
        forgeBounds();
        forgeKinds();
        forgeSizes();
        forgeNumbers();
        forgeCopies();
        forgePuts();
        forgeDivides();
        forgeThrows();
        status();
        lowestStatus();
        nothingElse();
    }

    private void acts() {
        sentence(0, "n is its number, p its STEP at 1 (0 if it lacks)");
        told(9);
        told(9, 4);
        taken(2, y -> y.cut(0, 1, 1, 1, 1));
        taken(3, y -> y.ring(1, 1));
        taken(4, y -> y.cut(3, 3, 2, 3, 2));
        taken(5, y -> y.act(0, 0, 5));
        taken(9, y -> y.act(1, 0, 5));
        taken(5, y -> y.act(2, 0, 5));
        taken(12, y -> y.act(3, 0, 5));
        taken(5, y -> y.act(4, 0, 5));
        taken(5, y -> y.act(0, 2, 5));
        taken(4, y -> y.act(1, 2, 5));
        fillRows();
        taken(3, y -> y.act(9, 2, 5));
        taken(-2, y -> y.act(9, 2, 0));

        sentence(0, "ACTS of ROWS, with a number x (32 bits, wrapping)");
        told(0, 1);
        told(0, 1);
        taken(2, y -> y.ring(1, 1));
        taken(LEAST, y -> y.act(0, 0, MOST));
        taken(LEAST, y -> y.act(0, 1, MOST));
        taken(MOST, y -> y.act(1, 2, LEAST));
        taken(0, y -> y.act(2, 0, MOST));
        taken(LEAST + 4, y -> y.act(2, 2, MOST));
        taken(-1, y -> y.act(0, 0, -2));
        taken(-1, y -> y.act(1, 2, 0));
        taken(6, y -> y.act(2, 1, MOST));
    }

    private void statusOfAct() {
        sentence(32, "An ACT of a ROW with x: what it answers (any number). STATUS 1.");
        refused(1, y -> y.act(0, 0, 1));
        taken(0, y -> y.ring(1, 1));
        taken(4, y -> y.act(0, 0, 1));
        taken(18, y -> y.act(0, 1, 1));
        taken(8, y -> y.act(0, 2, 1));
        taken((18 ^ 8) - 8, y -> y.act(0, 3, 1));
        for (int act : new int[] {-1, 4, LEAST, MOST}) {
            refused(1, y -> y.act(0, act, 1));
        }
        for (int row : new int[] {-1, 1, 9, 10, LEAST, MOST}) {
            refused(1, y -> y.act(row, 0, 1));
        }
        asked(10, y -> y.count(2));
        // -1 is an answer like others
        taken(-1, y -> y.act(0, 2, -8));
    }

    private void trace() {
        sentence(0, "THE TRACE: the numbers of the bodies that ran in the latest act()");
        taken(0, y -> y.slope(1, 0, 1, 0));
        taken(0, y -> y.points(0));
        taken(1, y -> y.ring(1, 1));
        asked(0, y -> y.count(2));
        taken(4, y -> y.act(0, 0, 1));
        askedEach((y, i) -> y.trace(i), 20, 10, -1);
        taken(16, y -> y.act(0, 1, 1));
        askedEach((y, i) -> y.trace(i), 51, 11, 20, 10, 20, 10, -1);
        taken(7, y -> y.act(1, 2, 1));
        askedEach((y, i) -> y.trace(i), 21, 12, -1);
        refused(1, y -> y.act(2, 3, 1));
        refused(1, y -> y.act(0, 4, 1));
        askedEach((y, i) -> y.trace(i), 21, 12, -1);
        taken(2, y -> y.cut(0, 0, 1, 0, 2));
        taken(6, y -> y.act(2, 3, 2));
        askedEach((y, i) -> y.trace(i), 13, 11, 40, 10, 41, 12, -1);
        taken(2, y -> y.drop(0));
        taken(1, y -> y.drop(0));
        taken(0, y -> y.drop(0));
        askedEach((y, i) -> y.trace(i), 13, 11, 40, 10, 41, 12, -1);

        sentence(0, "the first 50 are kept");
        taken(0, y -> y.slope(1, 0, 1, 0));
        taken(0, y -> y.points(0));
        // none has so many, but they are not added up
        for (int i = 0; i < 8; i++) {
            taken(16 ^ 1, y -> y.act(0, 3, 1));
            asked(10, y -> y.count(2));
        }
        askedEach((y, i) -> y.trace(i), 13, 51, 11, 20, 10, 20, 10, 50, 21, 12, -1);
        asked(-1, y -> y.trace(49));
        asked(-1, y -> y.trace(50));

        sentence(33, "THE TRACE's i-th body. -1: none such.");
        asked(-1, y -> y.trace(0));
        taken(0, y -> y.ring(1, 1));
        refused(1, y -> y.act(1, 0, 0));
        asked(-1, y -> y.trace(0));
        taken((18 ^ 8) - 8, y -> y.act(0, 3, 1));
        askedEach((y, i) -> y.trace(i), 31, 13, 30, 11, 20, 10, 21, 12, 21, 12, -1);
        for (int i : new int[] {-1, 50, LEAST, MOST}) {
            asked(-1, y -> y.trace(i));
        }
    }

    private void sheets() {
        sentence(0, "SHEETS 0 .. 3 are rows of numbers, or missing (as all are at first): "
                + "of sort 0 (bytes), 1 (ints), 2 (longs).");
        for (int i = 0; i < 4; i++) {
            int sheet = i;
            refused(10, y -> y.cell(sheet, 0, 1));
            for (int j = 0; j < 3; j++) {
                int sort = j;
                taken(1, y -> y.sheet(sheet, sort, 1));
                taken(1, y -> y.cell(sheet, 0, sheet + 1));
                taken(0, y -> y.row(sheet, sort, 1));
                asked(sheet + 1, y -> y.step(0, 0));
                taken(0, y -> y.drop(0));
            }
        }
        for (int sheet : new int[] {-1, 4, LEAST, MOST}) {
            refused(1, y -> y.sheet(sheet, 0, 1));
            refused(1, y -> y.cell(sheet, 0, 1));
        }

        sentence(34, "A SHEET of a sort (0 .. 2) with n (0 .. 40) numbers, all 0;");
        for (int sort = 0; sort < 3; sort++) {
            int each = sort;
            taken(1, y -> y.sheet(each, each, 40));
            taken(1, y -> y.cell(each, 39, 1));
            refused(12, y -> y.cell(each, 40, 1));
            taken(1, y -> y.sheet(each, each, 40));
            taken(each, y -> y.row(each, each, 40));
            asked(0, y -> y.sum(each, 40));
            taken(1, y -> y.sheet(each, each, 0));
            refused(12, y -> y.cell(each, 0, 1));
            refused(12, y -> y.row(each, each, 1));
        }
        for (int n : new int[] {-1, 41, LEAST, MOST}) {
            refused(1, y -> y.sheet(0, 0, n));
            refused(1, y -> y.sheet(3, 1, n));
        }
        for (int sort : new int[] {-2, 3, LEAST, MOST}) {
            refused(1, y -> y.sheet(0, sort, 1));
            refused(1, y -> y.sheet(3, sort, 1));
        }
        refused(12, y -> y.cell(0, 0, 1));
        refused(10, y -> y.cell(3, 0, 1));

        sentence(34, "sort -1: it is missing from now on (n does not matter). Answers 1. STATUS 1.");
        for (int n : new int[] {0, 40, -1, 41, LEAST, MOST}) {
            taken(1, y -> y.sheet(2, 1, 3));
            taken(1, y -> y.cell(2, 0, 7));
            taken(1, y -> y.sheet(2, -1, n));
            refused(10, y -> y.cell(2, 0, 7));
            refused(10, y -> y.row(2, 1, 1));
            refused(10, y -> y.forge(2, 0, 2));
            taken(1, y -> y.sheet(2, -1, n));
        }
        refused(1, y -> y.sheet(4, -1, 0));
        refused(1, y -> y.sheet(-1, -1, 0));
        taken(1, y -> y.sheet(2, 1, 3));
        taken(0, y -> y.forge(2, 0, 2));
    }

    private void cells() {
        sentence(35, "Number i of a SHEET becomes v (-100 .. 100). Answers 1. STATUS 1, 10, 12.");
        sheet(1, 1, 5, 6, 7);
        taken(1, y -> y.cell(1, 0, 100));
        taken(1, y -> y.cell(1, 2, -100));
        taken(100, y -> y.forge(2, 0, 1));
        taken(6, y -> y.forge(2, 1, 1));
        taken(-100, y -> y.forge(2, 2, 1));
        for (int v : new int[] {101, -101, LEAST, MOST}) {
            refused(1, y -> y.cell(1, 0, v));
            refused(1, y -> y.cell(1, 3, v));
            refused(1, y -> y.cell(0, 0, v));
        }
        for (int sheet : new int[] {-1, 4, LEAST, MOST}) {
            refused(1, y -> y.cell(sheet, 0, 1));
        }
        for (int i : new int[] {-1, 3, 40, LEAST, MOST}) {
            refused(12, y -> y.cell(1, i, 1));
            refused(10, y -> y.cell(0, i, 1));
        }
        taken(100, y -> y.forge(2, 0, 1));
        anew();
        for (int i = 0; i < 3; i++) {
            int sort = i;
            taken(1, y -> y.sheet(sort, sort, 40));
            taken(1, y -> y.cell(sort, 0, 100));
            taken(1, y -> y.cell(sort, 39, 100));
            refused(12, y -> y.cell(sort, 40, 100));
            taken(1, y -> y.cell(sort, 39, -100));
            refused(3, y -> y.row(sort, sort, 40));
            taken(1, y -> y.cell(sort, 39, 99));
            taken(sort, y -> y.row(sort, sort, 40));
            asked(199, y -> y.sum(sort, 40));
        }
    }

    private void forgeBounds() {
        sentence(36, "What the host does, by what (STATUS 1: another; n or k outside -100 .. 100)");
        for (int what : new int[] {-1, 7, LEAST, MOST}) {
            refused(1, y -> y.forge(what, 1, 1));
        }
        for (int i = 0; i < 7; i++) {
            int what = i;
            for (int outside : new int[] {-101, 101}) {
                refused(1, y -> y.forge(what, outside, 0));
                refused(1, y -> y.forge(what, 1, outside));
            }
        }
        refused(1, y -> y.forge(1, LEAST, 0));
        refused(1, y -> y.forge(1, MOST, 0));
        refused(1, y -> y.forge(1, 1, LEAST));
        refused(1, y -> y.forge(1, 1, MOST));
        taken(100, y -> y.forge(1, 100, 100));
        taken(100, y -> y.forge(1, 100, -100));
        taken(10, y -> y.forge(5, 100, 100));
        taken(-10, y -> y.forge(5, -100, -100));
    }

    private void forgeKinds() {
        sentence(36, "0 ROW k modulo 10 is taken for one whose KIND is n modulo 5 (also for numbers below 0) "
                + "or one under that one (also by others between): 10 (there is no such ROW), 11; answers its KIND.");
        refused(10, y -> y.forge(0, 0, 0));
        taken(0, y -> y.slope(1, 0, 2, 0));
        told(1);
        taken(1, y -> y.even(0, 0, 1));
        taken(2, y -> y.ring(1, 2));
        taken(3, y -> y.cut(0, 0, 1, 0, 1));
        taken(4, y -> y.points(0));
        String[] fits = {"0", "01", "012", "03", "014"};
        for (int row = 0; row < 5; row++) {
            for (int kind = 0; kind < 5; kind++) {
                int each = row;
                int as = kind;
                if (fits[row].indexOf('0' + kind) >= 0) {
                    taken(each, y -> y.forge(0, as, each));
                } else {
                    refused(11, y -> y.forge(0, as, each));
                }
            }
        }
        taken(4, y -> y.forge(0, -1, -6));
        taken(4, y -> y.forge(0, 99, 94));
        taken(0, y -> y.forge(0, 100, 100));
        taken(0, y -> y.forge(0, -100, -100));
        refused(11, y -> y.forge(0, -4, 100));
        taken(1, y -> y.forge(0, -4, -9));
        for (int none : new int[] {5, 9, 99, -1, -5, 15}) {
            refused(10, y -> y.forge(0, 0, none));
            refused(10, y -> y.forge(0, 3, none));
        }
        fillRows();
        taken(2, y -> y.forge(0, 2, 9));
        taken(2, y -> y.forge(0, 2, -1));
        taken(2, y -> y.forge(0, 2, 99));
    }

    private void forgeSizes() {
        sentence(36, "1 a row of n numbers is made: 13; answers n.");
        taken(0, y -> y.forge(1, 0, 0));
        taken(1, y -> y.forge(1, 1, 0));
        taken(100, y -> y.forge(1, 100, 0));
        refused(13, y -> y.forge(1, -1, 0));
        refused(13, y -> y.forge(1, -100, 0));
        refused(1, y -> y.forge(1, -101, 0));
        refused(1, y -> y.forge(1, 101, 0));
    }

    private void forgeNumbers() {
        sentence(36, "2 SHEET k modulo 4 is taken for one of sort 1: 11; its number n: 10, 12; answers it.");
        refused(10, y -> y.forge(2, 0, 0));
        sheet(0, 1, -100, 0, 100);
        sheet(1, 0, 1);
        sheet(2, 2, 1);
        taken(-100, y -> y.forge(2, 0, 0));
        taken(100, y -> y.forge(2, 2, 0));
        taken(100, y -> y.forge(2, 2, 100));
        taken(100, y -> y.forge(2, 2, -100));
        for (int n : new int[] {-1, 3, 100, -100}) {
            refused(12, y -> y.forge(2, n, 0));
            refused(11, y -> y.forge(2, n, 1));
            refused(11, y -> y.forge(2, n, 2));
            refused(10, y -> y.forge(2, n, 3));
        }
        refused(11, y -> y.forge(2, 0, 1));
        refused(11, y -> y.forge(2, 0, 2));
        refused(11, y -> y.forge(2, 0, -2));
        refused(10, y -> y.forge(2, 0, 3));
        refused(10, y -> y.forge(2, 0, -1));
        refused(10, y -> y.forge(2, 0, 99));
        taken(1, y -> y.sheet(0, 1, 40));
        taken(0, y -> y.forge(2, 39, 0));
        refused(12, y -> y.forge(2, 40, 0));
        taken(1, y -> y.sheet(0, 1, 0));
        refused(12, y -> y.forge(2, 0, 0));
    }

    private void forgeCopies() {
        sentence(36, "3 n numbers of SHEET k modulo 4, taken for one of sort 0 (11), from its number 1 on, "
                + "are copied to a row of 6 from place n on: 10, 12 (n below 0, "
                + "or they do not stand there in both; also if it has no numbers at all); answers their sum.");
        refused(10, y -> y.forge(3, 0, 0));
        sheet(0, 0, 50, 1, -20, 100, 7, 7, 7);
        sheet(1, 1, 50, 1);
        sheet(2, 2, 50, 1);
        taken(0, y -> y.forge(3, 0, 0));
        taken(1, y -> y.forge(3, 1, 0));
        taken(-19, y -> y.forge(3, 2, 0));
        taken(81, y -> y.forge(3, 3, 0));
        taken(81, y -> y.forge(3, 3, 100));
        taken(81, y -> y.forge(3, 3, -100));
        for (int n : new int[] {-1, -100, 4, 6, 100}) {
            refused(12, y -> y.forge(3, n, 0));
            refused(11, y -> y.forge(3, n, 1));
            refused(11, y -> y.forge(3, n, 2));
            refused(10, y -> y.forge(3, n, 3));
        }
        refused(11, y -> y.forge(3, 0, 1));
        refused(11, y -> y.forge(3, 1, 2));
        refused(10, y -> y.forge(3, 1, -1));
        for (int i = 0; i < 4; i++) {
            int size = i;
            taken(1, y -> y.sheet(0, 0, size));
            refused(12, y -> y.forge(3, size, 0));
            if (size > 0) {
                taken(0, y -> y.forge(3, size - 1, 0));
            }
        }
        taken(1, y -> y.sheet(0, 0, 4));
        taken(0, y -> y.forge(3, 3, 0));
        taken(1, y -> y.sheet(0, 0, 40));
        taken(0, y -> y.forge(3, 3, 0));
        refused(12, y -> y.forge(3, 4, 0));
    }

    private void forgePuts() {
        sentence(36, "4 ROW k modulo 10 is put into a row that takes EVEN ones and what is under them: 14; "
                + "answers its KIND (0: there is no such).");
        taken(0, y -> y.forge(4, 0, 0));
        taken(0, y -> y.slope(1, 0, 2, 0));
        told(1);
        taken(1, y -> y.even(0, 0, 1));
        taken(2, y -> y.ring(1, 2));
        taken(3, y -> y.cut(1, 0, 1, 0, 1));
        taken(4, y -> y.points(0));
        for (int turn : new int[] {0, 10, 90, -10, -100}) {
            refused(14, y -> y.forge(4, 1, turn));
            taken(1, y -> y.forge(4, 1, turn + 1));
            taken(2, y -> y.forge(4, 1, turn + 2));
            refused(14, y -> y.forge(4, 1, turn + 3));
            taken(4, y -> y.forge(4, 1, turn + 4));
            taken(0, y -> y.forge(4, 1, turn + 5));
            taken(0, y -> y.forge(4, 1, turn + 9));
        }
        refused(14, y -> y.forge(4, 1, 100));
        taken(0, y -> y.forge(4, 1, -1));
        fillRows();
        taken(2, y -> y.forge(4, 1, -1));
    }

    private void forgeDivides() {
        sentence(36, "5 1000 is divided by n: 15.");
        refused(15, y -> y.forge(5, 0, 0));
        taken(1000, y -> y.forge(5, 1, 0));
        taken(-1000, y -> y.forge(5, -1, 0));
        taken(333, y -> y.forge(5, 3, 0));
        taken(-333, y -> y.forge(5, -3, 0));
        taken(10, y -> y.forge(5, 99, 0));
        taken(10, y -> y.forge(5, 100, 0));
        taken(-10, y -> y.forge(5, -100, 0));
        refused(1, y -> y.forge(5, 101, 0));
    }

    private void forgeThrows() {
        sentence(36, "6 a failure is thrown: n modulo 2 is 0: none is there: 10; 1: one that is caught at once; "
                + "answers 1.");
        for (int n : new int[] {0, 2, 100, -2, -100}) {
            refused(10, y -> y.forge(6, n, 0));
        }
        for (int n : new int[] {1, 3, 99, -1, -99}) {
            taken(1, y -> y.forge(6, n, 0));
        }
    }

    private void status() {
        sentence(37, "STATUS.");
        asked(0, y -> y.status());
        refused(15, y -> y.forge(5, 0, 0));
        asked(15, y -> y.status());
        asked(15, y -> y.status());
        taken(0, y -> y.ring(1, 1));
        asked(0, y -> y.status());

        sentence(0, "STATUS of the latest call that is no question "
                + "(slope, row, even, ring, cut, points, drop, sheet, cell, act, forge)");
        Call[] refusedCalls = {y -> y.slope(1, 0, 0, 0), y -> y.row(4, 0, 0), y -> y.even(0, 1, 1),
            y -> y.ring(2, 1), y -> y.cut(0, 0, 7, 0, 1), y -> y.points(8), y -> y.drop(2), y -> y.sheet(4, 0, 0),
            y -> y.cell(4, 0, 0), y -> y.act(10, 0, 0), y -> y.forge(7, 0, 0)};
        for (Call call : refusedCalls) {
            taken(1, y -> y.forge(1, 1, 0));
            refused(1, call);
        }
        Call[] takenCalls = {y -> y.slope(1, 0, 1, 0), y -> y.sheet(0, 0, 1) - 1, y -> y.cell(0, 0, 1) - 1,
            y -> y.row(0, 0, 1), y -> y.even(0, 0, 1) - 1, y -> y.ring(2, 2) - 2, y -> y.cut(0, 0, 1, 0, 1) - 3,
            y -> y.points(0) - 4, y -> y.drop(0) - 4, y -> y.act(0, 0, 0), y -> y.act(0, 1, 0), y -> y.act(0, 2, 0),
            y -> y.act(0, 3, 0), y -> y.slope(1, 0, 1, 0) - 1, y -> y.drop(1) - 1, y -> y.sheet(0, -1, 0) - 1,
            y -> y.forge(1, 0, 0)};
        for (Call call : takenCalls) {
            refused(15, y -> y.forge(5, 0, 0));
            taken(0, call);
        }
        anew();
        refused(13, y -> y.forge(1, -1, 0));
        questions(-1, NO);
        asked(13, y -> y.status());
        taken(0, y -> y.slope(1, 0, 1, 0));
        questions(-1, NO);
        asked(0, y -> y.status());
    }

    private void questions(int none, int no) {
        asked(none, y -> y.count(9));
        asked(none, y -> y.whole(9, 9));
        asked(no, y -> y.against(9, 9, 9));
        asked(none, y -> y.quotient(9, 9));
        asked(none, y -> y.nearer(9, 9));
        asked(none, y -> y.within(9, 9, 9, 9));
        asked(none, y -> y.digit(9, 9, 9));
        asked(none, y -> y.line(9, 9));
        asked(none, y -> y.kind(99));
        asked(none, y -> y.step(99, 9));
        asked(none, y -> y.sum(99, 9));
        asked(none, y -> y.isEven(99, 9, 9));
        asked(none, y -> y.clash(99, 9, 9, 9));
        asked(no, y -> y.range(99, 9, 9, 9));
        asked(none, y -> y.parts(99, 9, 9));
        asked(none, y -> y.gaps(99, 9));
        asked(no, y -> y.gap(99, 9, 9, 9));
        asked(none, y -> y.follows(99, 9, 9));
        asked(none, y -> y.share(9, 9));
        asked(none, y -> y.spread(9, 0));
        asked(none, y -> y.turning(9, 0));
        asked(none, y -> y.wins(-9, 9));
        asked(none, y -> y.takes(-9, 9));
        asked(none, y -> y.trace(99));
    }

    private void lowestStatus() {
        sentence(0, "Where several hold, the lowest.");
        fillSlopes();
        fillRows();
        refused(1, y -> y.slope(0, 1, 1, 4));
        refused(2, y -> y.slope(0, 0, 1, 0));
        refused(1, y -> y.row(0, 3, 1));
        refused(2, y -> y.row(0, 0, 1));
        refused(1, y -> y.even(8, 0, 1));
        refused(2, y -> y.even(7, 0, 1));
        refused(1, y -> y.ring(2, 1));
        refused(1, y -> y.cut(0, 2, 1, 0, 1));
        refused(1, y -> y.points(8));
        refused(1, y -> y.cell(0, 99, 101));
        refused(10, y -> y.cell(0, 99, 100));
        refused(1, y -> y.forge(5, 0, 101));
        refused(1, y -> y.forge(7, 0, 0));
        refused(1, y -> y.forge(1, -101, 0));
        refused(1, y -> y.forge(2, -1, 101));
        refused(10, y -> y.forge(2, -1, 0));
        refused(10, y -> y.forge(3, -1, 0));
        taken(1, y -> y.sheet(0, 2, 0));
        refused(11, y -> y.forge(2, -1, 0));
        refused(11, y -> y.forge(3, -1, 0));
        refused(12, y -> y.cell(0, 0, 100));
        refused(1, y -> y.cell(0, 0, 101));
        refused(1, y -> y.drop(2));
    }

    private void nothingElse() {
        sentence(0, "Such calls answer -1 and change nothing else.");
        taken(0, y -> y.slope(-1, 1, 2, 5));
        taken(0, y -> y.even(0, 0, 1));
        sheet(0, 0, 3, 4, 5);
        sheet(1, 1, 3, -4, 5);
        sheet(2, 2, 3, 4, 5, 6, 7);
        taken(1, y -> y.row(2, 2, 5));
        taken(2, y -> y.ring(2, 3));
        taken(36, y -> y.act(2, 1, 4));
        refused(1, y -> y.slope(1, 1, 1, 4));
        refused(3, y -> y.slope(0, 0, 1, 0));
        refused(1, y -> y.row(0, 0, 0));
        refused(10, y -> y.row(3, 0, 1));
        refused(11, y -> y.row(0, 1, 1));
        refused(12, y -> y.row(0, 0, 4));
        refused(3, y -> y.row(1, 1, 2));
        refused(1, y -> y.even(0, 1, 1));
        refused(1, y -> y.ring(0, 1));
        refused(1, y -> y.cut(0, 0, 0, 0, 1));
        refused(1, y -> y.points(1));
        refused(1, y -> y.drop(2));
        refused(3, y -> y.drop(1));
        refused(1, y -> y.sheet(0, 0, 41));
        refused(1, y -> y.sheet(1, 3, 4));
        refused(1, y -> y.cell(0, 1, 101));
        refused(10, y -> y.cell(3, 1, 1));
        refused(12, y -> y.cell(2, 5, 1));
        refused(1, y -> y.act(2, 4, 4));
        refused(1, y -> y.act(3, 0, 4));
        refused(10, y -> y.forge(0, 0, 3));
        refused(11, y -> y.forge(0, 2, 1));
        refused(13, y -> y.forge(1, -1, 0));
        refused(12, y -> y.forge(2, 3, 1));
        refused(12, y -> y.forge(3, 3, 0));
        refused(14, y -> y.forge(4, 0, 1));
        refused(15, y -> y.forge(5, 0, 0));
        refused(10, y -> y.forge(6, 0, 0));
        askedEach((y, i) -> y.trace(i), 30, 11, 20, 10, -1);
        askedEach((y, what) -> y.count(what), 1, 3, 4);
        askedEach((y, i) -> y.step(1, i), 3, 4, 5, 6, 7, -1);
        taken(9, y -> y.forge(3, 2, 0));
        taken(-4, y -> y.forge(2, 1, 1));
    }
}
