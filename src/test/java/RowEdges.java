/** Edges of ROWS: how they are made and dropped, and their STEPS and SUMS. */
final class RowEdges extends Edges {
    RowEdges(Checks checks, Sentences sentences) {
        super(checks, sentences);
    }

    @Override
    void run() {
        newObject();
        room();
        places();
        rows();
        statusOfRow();
        evens();
        rings();
        cuts();
        cutEnds();
        points();
        drops();
        counts();
        kinds();
        steps();
        sums();
    }

    private void newObject() {
        sentence(1, "No SLOPES, no ROWS, all SHEETS missing.");
        asked(0, y -> y.status());
        askedEach((y, what) -> y.count(what), 0, 0, 0);
        for (int i = 0; i < 10; i++) {
            int number = i;
            asked(-1, y -> y.whole(number, 1));
            asked(-1, y -> y.kind(number));
        }
        asked(-1, y -> y.trace(0));
        for (int i = 0; i < 4; i++) {
            int sheet = i;
            refused(10, y -> y.cell(sheet, 0, 0));
            refused(10, y -> y.row(sheet, 0, 1));
            refused(10, y -> y.forge(2, 0, sheet));
        }
        refused(3, y -> y.drop(0));
        refused(3, y -> y.drop(1));
        asked(-1, y -> EvenSteps.NONE);
        asked(-1000000, y -> EvenSteps.NO);
    }

    private void room() {
        sentence(0, "ROWS 0 .. 9 tell a STEP (whole)");
        taken(0, y -> y.slope(1, 0, 2, 0));
        sheet(0, 1, 5);
        for (int i = 0; i < 10; i++) {
            int number = i;
            asked(-1, y -> y.kind(number));
            taken(number, y -> y.ring(1, number + 1));
            asked(2, y -> y.kind(number));
        }
        refused(2, y -> y.row(0, 1, 1));
        refused(2, y -> y.even(0, 0, 1));
        refused(2, y -> y.ring(1, 1));
        refused(2, y -> y.cut(0, 0, 1, 0, 1));
        refused(2, y -> y.points(0));
        asked(10, y -> y.count(1));
        asked(-1, y -> y.kind(10));
        asked(1, y -> y.step(9, 9));
        taken(9, y -> y.drop(0));
        taken(9, y -> y.row(0, 1, 1));
        asked(0, y -> y.kind(9));
        asked(5, y -> y.step(9, 0));
        refused(2, y -> y.points(0));
    }

    private void places() {
        sentence(0, "for each place from 0 on, up to 10000, some for fewer places");
        taken(0, y -> y.slope(20, 0, 1, 0));
        taken(0, y -> y.even(0, 99, 100));
        taken(1, y -> y.ring(60, 60));
        taken(2, y -> y.cut(1, 0, 1, 1, 1));
        taken(3, y -> y.points(0));
        told(7);
        int[] steps = {20, 1, 1, 20};
        for (int i = 0; i < 4; i++) {
            int row = i;
            asked(-1, y -> y.step(row, -1));
            asked(steps[row], y -> y.step(row, 0));
            asked(steps[row], y -> y.step(row, 9999));
            asked(steps[row], y -> y.step(row, 10000));
            asked(-1, y -> y.step(row, 10001));
            asked(-1, y -> y.step(row, MOST));
            asked(-1, y -> y.step(row, LEAST));
        }
        asked(-1, y -> y.step(4, -1));
        asked(7, y -> y.step(4, 0));
        asked(-1, y -> y.step(4, 1));
        asked(-1, y -> y.step(4, 10000));
    }

    private void rows() {
        sentence(0, "0 ROW: told steps (0 .. 100), 1 to 40.");
        sheet(0, 0, 0, 100, -1);
        sheet(1, 2, 100, 0, -100);
        taken(1, y -> y.sheet(2, 1, 40));
        taken(1, y -> y.cell(2, 39, 100));
        taken(0, y -> y.row(0, 0, 2));
        askedEach((y, i) -> y.step(0, i), 0, 100, -1);
        refused(3, y -> y.row(0, 0, 3));
        taken(1, y -> y.row(1, 2, 2));
        askedEach((y, i) -> y.step(1, i), 100, 0, -1);
        refused(3, y -> y.row(1, 2, 3));
        taken(2, y -> y.row(2, 1, 1));
        askedEach((y, i) -> y.step(2, i), 0, -1);
        taken(3, y -> y.row(2, 1, 40));
        asked(100, y -> y.step(3, 39));
        asked(-1, y -> y.step(3, 40));
        for (int n : new int[] {0, -1, 41, LEAST, MOST}) {
            refused(1, y -> y.row(2, 1, n));
        }

        sentence(3, "A ROW of the first n numbers of a SHEET that is taken for one of a sort: its number.");
        for (int i = 0; i < 3; i++) {
            int sort = i;
            sheet(sort, sort, 1, 2, 3);
            refused(12, y -> y.row(sort, sort, 4));
            taken(sort, y -> y.row(sort, sort, 3));
            askedEach((y, place) -> y.step(sort, place), 1, 2, 3, -1);
            refused(11, y -> y.row(sort, (sort + 1) % 3, 3));
            refused(11, y -> y.row(sort, (sort + 2) % 3, 3));
        }
        taken(1, y -> y.sheet(3, 0, 0));
        refused(12, y -> y.row(3, 0, 1));
        // what becomes of the SHEET later is nothing to the ROW
        taken(1, y -> y.cell(0, 0, 9));
        taken(1, y -> y.sheet(1, -1, 0));
        askedEach((y, place) -> y.step(0, place), 1, 2, 3, -1);
        askedEach((y, place) -> y.step(1, place), 1, 2, 3, -1);
    }

    private void statusOfRow() {
        sentence(3, "STATUS 1, 2, 10, 11, 12, 3 (a number that is no STEP); in this order.");
        sheet(0, 0, -1, 2);
        for (int sheet : new int[] {-1, 4, LEAST, MOST}) {
            refused(1, y -> y.row(sheet, 0, 1));
        }
        for (int sort : new int[] {-1, 3, LEAST, MOST}) {
            refused(1, y -> y.row(0, sort, 1));
            refused(1, y -> y.row(1, sort, 1));
        }
        refused(1, y -> y.row(1, 0, 41));
        refused(1, y -> y.row(0, 1, 41));
        refused(1, y -> y.row(0, 0, 0));
        refused(10, y -> y.row(1, 0, 1));
        refused(10, y -> y.row(1, 2, 40));
        refused(11, y -> y.row(0, 1, 3));
        refused(11, y -> y.row(0, 2, 1));
        refused(12, y -> y.row(0, 0, 3));
        refused(12, y -> y.row(0, 0, 40));
        refused(3, y -> y.row(0, 0, 2));
        refused(3, y -> y.row(0, 0, 1));
        fillRows();
        refused(1, y -> y.row(4, 0, 1));
        refused(1, y -> y.row(0, 3, 1));
        refused(1, y -> y.row(0, 0, 41));
        refused(2, y -> y.row(1, 0, 1));
        refused(2, y -> y.row(0, 1, 1));
        refused(2, y -> y.row(0, 0, 3));
        refused(2, y -> y.row(0, 0, 2));
        asked(10, y -> y.count(1));
    }

    private void evens() {
        sentence(0, "SHIFT u / v (v 1 .. 100, u from 0 to v less 1)");
        taken(0, y -> y.slope(1, 0, 100, 0));
        taken(0, y -> y.even(0, 0, 1));
        taken(1, y -> y.even(0, 0, 100));
        taken(2, y -> y.even(0, 99, 100));
        taken(3, y -> y.even(0, 1, 2));
        // the first 1 comes where s (n + 1) + u / v is 1 at last
        int[] first = {99, 99, 0, 49};
        for (int i = 0; i < 4; i++) {
            int row = i;
            asked(first[i] == 0 ? -1 : 0, y -> y.step(row, first[row] - 1));
            asked(1, y -> y.step(row, first[row]));
            asked(0, y -> y.step(row, first[row] + 1));
        }
        refused(1, y -> y.even(0, 1, 1));
        refused(1, y -> y.even(0, 100, 100));
        refused(1, y -> y.even(0, 2, 2));
        refused(1, y -> y.even(0, -1, 1));
        refused(1, y -> y.even(0, -1, 100));
        refused(1, y -> y.even(0, LEAST, 100));
        refused(1, y -> y.even(0, MOST, 100));
        for (int v : new int[] {0, -1, 101, LEAST, MOST}) {
            refused(1, y -> y.even(0, 0, v));
        }
        refused(1, y -> y.even(0, -2, -1));

        sentence(4, "An EVEN ROW: its number. STATUS 1, 2.");
        refused(1, y -> y.even(0, 0, 1));
        taken(0, y -> y.slope(1, 1, 2, 5));
        for (int slope : new int[] {-1, 1, 8, LEAST, MOST}) {
            refused(1, y -> y.even(slope, 0, 1));
        }
        fillRows();
        refused(2, y -> y.even(0, 0, 1));
        refused(1, y -> y.even(1, 0, 1));
        refused(1, y -> y.even(0, 1, 1));
        refused(1, y -> y.even(0, 0, 101));
        taken(9, y -> y.drop(0));
        taken(9, y -> y.even(0, 0, 1));
        asked(1, y -> y.kind(9));
    }

    private void rings() {
        sentence(0, "k steps on m places (m 1 .. 60, k 1 .. m)");
        taken(0, y -> y.ring(1, 1));
        taken(1, y -> y.ring(1, 60));
        taken(2, y -> y.ring(60, 60));
        taken(3, y -> y.ring(59, 60));
        asked(1, y -> y.step(0, 0));
        asked(0, y -> y.step(1, 0));
        asked(0, y -> y.step(1, 58));
        asked(1, y -> y.step(1, 59));
        asked(0, y -> y.step(1, 60));
        asked(1, y -> y.step(1, 119));
        asked(60, y -> y.sum(2, 60));
        asked(0, y -> y.step(3, 0));
        asked(0, y -> y.step(3, 60));
        asked(59, y -> y.sum(3, 60));
        for (int m : new int[] {0, -1, 61, LEAST, MOST}) {
            refused(1, y -> y.ring(1, m));
            refused(1, y -> y.ring(m, m));
        }
        for (int k : new int[] {0, -1, 6, LEAST, MOST}) {
            refused(1, y -> y.ring(k, 5));
        }
        refused(1, y -> y.ring(2, 1));
        refused(1, y -> y.ring(61, 60));

        sentence(0, "as EVEN with the slope k / m and the SHIFT 0");
        taken(0, y -> y.slope(37, 0, 60, 0));
        taken(0, y -> y.even(0, 0, 1));
        taken(1, y -> y.ring(37, 60));
        EvenSteps apart = new EvenSteps();
        apart.slope(37, 0, 60, 0);
        apart.even(0, 0, 1);
        for (int place : new int[] {0, 1, 2, 58, 59, 60, 61, 119, 120, 9999, 10000, 10001}) {
            asked(apart.step(0, place), y -> y.step(1, place));
            asked(apart.sum(0, place), y -> y.sum(1, place));
        }

        sentence(5, "A RING: its number. STATUS 1, 2.");
        fillRows();
        refused(2, y -> y.ring(1, 1));
        refused(2, y -> y.ring(60, 60));
        refused(1, y -> y.ring(0, 1));
        refused(1, y -> y.ring(2, 1));
        refused(1, y -> y.ring(1, 61));
        taken(9, y -> y.drop(0));
        taken(9, y -> y.ring(60, 60));
        asked(0, y -> y.count(0));
    }

    private void cuts() {
        sentence(0, "(each 1 to 6 steps 0 or 1, told as bits, the lowest first)");
        int row = told(0, 1);
        taken(1, y -> y.cut(row, 0, 1, 1, 1));
        taken(2, y -> y.cut(row, 1, 6, 32, 6));
        taken(3, y -> y.cut(row, 63, 6, 0, 6));
        askedEach((y, i) -> y.step(1, i), 0, 1, -1);
        askedEach((y, i) -> y.step(2, i), 1, 0, 0, 0, 0, 0, 0, 0, 0, 0, 0, 1, -1);
        askedEach((y, i) -> y.step(3, i), 1, 1, 1, 1, 1, 1, 0, 0, 0, 0, 0, 0, -1);
        for (int length : new int[] {0, -1, 7, 32, 33, LEAST, MOST}) {
            refused(1, y -> y.cut(row, 0, length, 0, 1));
            refused(1, y -> y.cut(row, 0, 1, 0, length));
        }

        sentence(6, "A CUT of a ROW: the stretches for 0 and 1, each as bits and how many: its number. "
                + "STATUS 1 (also bits beyond), 2.");
        refused(1, y -> y.cut(0, 0, 1, 0, 1));
        taken(0, y -> y.ring(1, 2));
        for (int i = 1; i <= 6; i++) {
            int length = i;
            refused(1, y -> y.cut(0, 1 << length, length, 0, 1));
            refused(1, y -> y.cut(0, 0, 1, 1 << length, length));
            refused(1, y -> y.cut(0, -1, length, 0, 1));
            refused(1, y -> y.cut(0, 0, 1, -1, length));
            taken(1, y -> y.cut(0, (1 << length) - 1, length, (1 << length) - 1, length));
            asked(50, y -> y.sum(1, 50));
            taken(1, y -> y.drop(0));
        }
        refused(1, y -> y.cut(0, LEAST, 6, 0, 1));
        refused(1, y -> y.cut(0, 0, 1, MOST, 6));
        for (int row1 : new int[] {-1, 1, 10, LEAST, MOST}) {
            refused(1, y -> y.cut(row1, 0, 1, 0, 1));
        }
        fillRows();
        refused(2, y -> y.cut(0, 0, 1, 0, 1));
        refused(1, y -> y.cut(10, 0, 1, 0, 1));
        refused(1, y -> y.cut(0, 0, 7, 0, 1));
        refused(1, y -> y.cut(0, 0, 1, 2, 1));
        taken(9, y -> y.drop(0));
        taken(9, y -> y.cut(8, 0, 1, 1, 1));
    }

    private void cutEnds() {
        sentence(0, "it ends ahead of a STEP that is another, or lacks");
        int other = told(0, 1, 2, 0, 1);
        int lacks = told(1, 0);
        int never = told(100, 0);
        taken(3, y -> y.cut(other, 2, 2, 1, 3));
        taken(4, y -> y.cut(lacks, 2, 2, 1, 3));
        taken(5, y -> y.cut(never, 2, 2, 1, 3));
        taken(6, y -> y.cut(5, 1, 1, 1, 1));
        askedEach((y, i) -> y.step(3, i), 0, 1, 1, 0, 0, -1, -1, -1);
        askedEach((y, i) -> y.step(4, i), 1, 0, 0, 0, 1, -1, -1);
        askedEach((y, i) -> y.step(5, i), -1, -1);
        askedEach((y, i) -> y.step(6, i), -1, -1);
        asked(2, y -> y.sum(3, 5));
        asked(-1, y -> y.sum(3, 6));
        asked(0, y -> y.sum(5, 0));
        asked(-1, y -> y.sum(5, 1));

        sentence(0, "3 CUT, under ROW: of a ROW ahead of it");
        taken(0, y -> y.ring(1, 1));
        for (int i = 1; i < 10; i++) {
            int number = i;
            refused(1, y -> y.cut(number, 0, 1, 1, 1));
            taken(number, y -> y.cut(number - 1, 0, 1, 1, 1));
        }
        asked(1, y -> y.step(9, 10000));
        asked(-1, y -> y.step(9, 10001));
        asked(10000, y -> y.sum(9, 10000));
        taken(9, y -> y.drop(0));
        taken(9, y -> y.cut(0, 0, 1, 2, 2));
        askedEach((y, i) -> y.step(9, i), 0, 1, 0, 1);
    }

    private void points() {
        sentence(0, "4 POINTS, under EVEN: of a SLOPE, SHIFT 0");
        taken(0, y -> y.slope(1, 0, 2, 0));
        taken(0, y -> y.points(0));
        askedEach((y, i) -> y.step(0, i), 0, 1, 0, 1);
        asked(0, y -> y.step(0, 10000));
        asked(1, y -> y.step(0, 9999));

        sentence(7, "POINTS of a SLOPE: its number. STATUS 1, 2.");
        refused(1, y -> y.points(0));
        taken(0, y -> y.slope(1, 0, 2, 0));
        for (int slope : new int[] {-1, 1, 8, LEAST, MOST}) {
            refused(1, y -> y.points(slope));
        }
        fillRows();
        refused(2, y -> y.points(0));
        refused(1, y -> y.points(1));
        taken(9, y -> y.drop(0));
        taken(9, y -> y.points(0));
        asked(4, y -> y.kind(9));
    }

    private void drops() {
        sentence(8, "The latest ROW (what 0) or SLOPE (1) is no more: its number.");
        taken(0, y -> y.slope(1, 0, 2, 0));
        taken(1, y -> y.slope(1, 0, 3, 0));
        taken(0, y -> y.ring(1, 2));
        taken(1, y -> y.ring(1, 3));
        taken(1, y -> y.drop(0));
        asked(-1, y -> y.kind(1));
        asked(2, y -> y.kind(0));
        asked(2, y -> y.count(0));
        taken(1, y -> y.drop(1));
        asked(-1, y -> y.whole(1, 1));
        asked(1, y -> y.whole(0, 2));
        asked(1, y -> y.count(1));
        taken(0, y -> y.drop(0));
        taken(0, y -> y.drop(1));

        sentence(8, "STATUS 1, 3 (there is none; a ROW is made of that SLOPE).");
        for (int what : new int[] {-1, 2, LEAST, MOST}) {
            refused(1, y -> y.drop(what));
        }
        refused(3, y -> y.drop(0));
        refused(3, y -> y.drop(1));
        taken(0, y -> y.slope(1, 0, 2, 0));
        refused(3, y -> y.drop(0));
        taken(0, y -> y.even(0, 0, 1));
        refused(3, y -> y.drop(1));
        taken(1, y -> y.slope(1, 0, 3, 0));
        taken(1, y -> y.points(1));
        taken(2, y -> y.ring(1, 2));
        refused(3, y -> y.drop(1));
        taken(2, y -> y.drop(0));
        refused(3, y -> y.drop(1));
        taken(1, y -> y.drop(0));
        taken(1, y -> y.drop(1));
        refused(3, y -> y.drop(1));
        taken(1, y -> y.cut(0, 0, 1, 1, 1));
        refused(3, y -> y.drop(1));
        taken(1, y -> y.drop(0));
        taken(0, y -> y.drop(0));
        taken(0, y -> y.drop(1));
        refused(3, y -> y.drop(0));
        refused(3, y -> y.drop(1));
        anew();
        fillSlopes();
        fillRows();
        taken(7, y -> y.drop(1));
        taken(9, y -> y.drop(0));
        taken(9, y -> y.points(6));
        refused(3, y -> y.drop(1));
        taken(9, y -> y.drop(0));
        taken(6, y -> y.drop(1));
    }

    private void counts() {
        sentence(9, "How many: 0 SLOPES, 1 ROWS, 2 THE TRACE's bodies. -1: another.");
        askedEach((y, what) -> y.count(what), 0, 0, 0, -1);
        fillSlopes();
        askedEach((y, what) -> y.count(what), 8, 0, 0, -1);
        fillRows();
        askedEach((y, what) -> y.count(what), 8, 10, 0, -1);
        taken(10, y -> y.act(9, 2, 12));
        askedEach((y, what) -> y.count(what), 8, 10, 2, -1);
        for (int what : new int[] {-1, 4, LEAST, MOST}) {
            asked(-1, y -> y.count(what));
        }
        refused(2, y -> y.slope(1, 0, 1, 0));
        refused(2, y -> y.ring(1, 1));
        refused(1, y -> y.act(10, 2, 12));
        askedEach((y, what) -> y.count(what), 8, 10, 2, -1);
    }

    private void kinds() {
        sentence(17, "KIND of a ROW. -1: no such.");
        asked(-1, y -> y.kind(0));
        taken(0, y -> y.slope(1, 0, 2, 0));
        told(1);
        taken(1, y -> y.even(0, 0, 1));
        taken(2, y -> y.ring(1, 1));
        taken(3, y -> y.cut(0, 0, 1, 0, 1));
        taken(4, y -> y.points(0));
        askedEach((y, row) -> y.kind(row), 0, 1, 2, 3, 4, -1);
        for (int row : new int[] {-1, 9, 10, LEAST, MOST}) {
            asked(-1, y -> y.kind(row));
        }
    }

    private void steps() {
        sentence(18, "The STEP of a ROW at a place (0 .. 10000). -1: it lacks, or no such.");
        asked(-1, y -> y.step(0, 0));
        int row = told(0, 3);
        taken(1, y -> y.cut(row, 1, 1, 1, 1));
        taken(2, y -> y.ring(1, 60));
        askedEach((y, place) -> y.step(0, place), 0, 3, -1);
        askedEach((y, place) -> y.step(1, place), 1, -1);
        asked(0, y -> y.step(2, 10000));
        for (int place : new int[] {-1, 10001, LEAST, MOST}) {
            asked(-1, y -> y.step(0, place));
            asked(-1, y -> y.step(1, place));
            asked(-1, y -> y.step(2, place));
        }
        for (int none : new int[] {-1, 3, 10, LEAST, MOST}) {
            asked(-1, y -> y.step(none, 0));
        }
    }

    private void sums() {
        sentence(0, "SUM of n: the sum of the STEPS at 0 .. n - 1.");
        taken(0, y -> y.slope(1, 0, 2, 0));
        int row = told(5, 0, 7);
        taken(1, y -> y.even(0, 1, 2));
        taken(2, y -> y.ring(3, 3));
        taken(3, y -> y.cut(2, 0, 1, 2, 2));
        taken(4, y -> y.points(0));
        askedEach((y, n) -> y.sum(row, n), 0, 5, 5, 12, -1);
        askedEach((y, n) -> y.sum(1, n), 0, 1, 1, 2, 2);
        askedEach((y, n) -> y.sum(2, n), 0, 1, 2, 3, 4);
        askedEach((y, n) -> y.sum(3, n), 0, 0, 1, 1, 2);
        askedEach((y, n) -> y.sum(4, n), 0, 0, 1, 1, 2);

        sentence(19, "The SUM of the first n STEPS (0 .. 10000) of a ROW. -1: one lacks, or no such.");
        asked(-1, y -> y.sum(0, 0));
        taken(1, y -> y.sheet(0, 2, 40));
        taken(1, y -> y.cell(0, 39, 100));
        taken(0, y -> y.row(0, 2, 40));
        taken(0, y -> y.slope(20, 0, 1, 0));
        taken(1, y -> y.even(0, 0, 1));
        taken(2, y -> y.ring(1, 1));
        taken(3, y -> y.cut(2, 0, 1, 1, 1));
        asked(0, y -> y.sum(0, 0));
        asked(0, y -> y.sum(0, 39));
        asked(100, y -> y.sum(0, 40));
        asked(-1, y -> y.sum(0, 41));
        asked(-1, y -> y.sum(0, 10000));
        asked(0, y -> y.sum(1, 0));
        asked(200000, y -> y.sum(1, 10000));
        asked(10000, y -> y.sum(2, 10000));
        asked(10000, y -> y.sum(3, 10000));
        for (int n : new int[] {-1, 10001, LEAST, MOST}) {
            for (int row1 = 0; row1 < 4; row1++) {
                int each = row1;
                asked(-1, y -> y.sum(each, n));
            }
        }
        for (int none : new int[] {-1, 4, 10, LEAST, MOST}) {
            asked(-1, y -> y.sum(none, 0));
        }
    }
}
