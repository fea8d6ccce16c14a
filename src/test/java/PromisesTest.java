/** Each promise of the document by itself: ordinary inputs, the edges that it names, and wrong inputs. */
public final class PromisesTest {
    private static final int MOST = Integer.MAX_VALUE;
    private static final int LEAST = Integer.MIN_VALUE;
    private final Checks checks = new Checks();
    private EvenSteps x = new EvenSteps();
    private String about = "";

    public static void main(String[] args) {
        PromisesTest test = new PromisesTest();
        test.making();
        test.askingSlopes();
        test.askingRows();
        test.askingPoints();
        test.askingNumbers();
        test.acting();
        test.hosting();
        test.checks.end();
    }

    private void begin(String promise) {
        about = promise;
        x = new EvenSteps();
    }

    private void due(String call, long got, long want) {
        checks.same(about + ": " + call, got, want);
    }

    /** A call that is refused answers -1 and tells why. */
    private void refused(String call, long got, int why) {
        due(call, got, -1);
        due(call + " status", x.status(), why);
    }

    private void done(String call, long got, long want) {
        due(call, got, want);
        due(call + " status", x.status(), 0);
    }

    private void tell(int sheet, int sort, int... numbers) {
        done("sheet", x.sheet(sheet, sort, numbers.length), 1);
        for (int i = 0; i < numbers.length; i++) {
            done("cell", x.cell(sheet, i, numbers[i]), 1);
        }
    }

    /** Makes a ROW of told steps: its number. */
    private int told(int... steps) {
        tell(3, 1, steps);
        int row = x.row(3, 1, steps.length);
        due("row status", x.status(), 0);
        return row;
    }

    private void steps(int row, int... steps) {
        for (int i = 0; i < steps.length; i++) {
            due("step(" + row + ", " + i + ")", x.step(row, i), steps[i]);
        }
    }

    private void making() {
        newObject();
        slope();
        slopeSize();
        row();
        even();
        ring();
        cut();
        points();
        dropRow();
        dropSlope();
        count();
    }

    private void newObject() {
        begin("1 new");
        due("status", x.status(), 0);
        for (int what = 0; what < 3; what++) {
            due("count " + what, x.count(what), 0);
        }
        due("kind", x.kind(0), -1);
        due("whole", x.whole(0, 1), -1);
        due("trace", x.trace(0), -1);
        for (int sheet = 0; sheet < 4; sheet++) {
            refused("cell", x.cell(sheet, 0, 0), 10);
        }
        due("NONE", EvenSteps.NONE, -1);
        due("NO", EvenSteps.NO, -1000000);
    }

    private void slope() {
        begin("2 slope");
        refused("a", x.slope(-1001, 20, 1, 50), 1);
        refused("a", x.slope(1001, -20, 60, 2), 1);
        refused("b", x.slope(500, -21, 60, 2), 1);
        refused("b", x.slope(0, 21, 60, 2), 1);
        refused("c", x.slope(1, 0, 0, 2), 1);
        refused("c", x.slope(1, 0, 101, 2), 1);
        refused("c", x.slope(-1, 0, -1, 2), 1);
        refused("d", x.slope(1, 1, 1, 1), 1);
        refused("d", x.slope(1, 1, 1, 51), 1);
        refused("d", x.slope(1, 1, 1, -2), 1);
        for (int root = 2; root <= 7; root++) {
            refused("square", x.slope(1, 1, 1, root * root), 1);
        }
        refused("wild", x.slope(MOST, LEAST, MOST, LEAST), 1);
        done("d does not matter", x.slope(5, 0, 3, -7), 0);
        done("d does not matter", x.slope(5, 0, 3, 49), 1);
        done("d does not matter", x.slope(5, 0, 3, LEAST), 2);
        done("edges", x.slope(1000, -20, 100, 50), 3);
        done("edges", x.slope(-100, 20, 1, 26), 4);
        done("edges", x.slope(1, 1, 100, 2), 5);
        done("edge", x.slope(1000, 0, 100, 0), 6);
        refused("not above 0", x.slope(0, 0, 1, 0), 3);
        done("the last", x.slope(1, 0, 1, 0), 7);
        refused("full", x.slope(1, 0, 1, 0), 2);
        refused("full ahead of 3", x.slope(0, 0, 1, 0), 2);
        refused("1 ahead of full", x.slope(1, 1, 1, 4), 1);
        due("count", x.count(0), 8);
    }

    private void slopeSize() {
        begin("2 slope, from 0 to 20");
        refused("0", x.slope(0, 0, 100, 0), 3);
        refused("below", x.slope(-1, 0, 1, 0), 3);
        refused("above 20", x.slope(1000, 0, 49, 0), 3);
        refused("just above", x.slope(37, -12, 1, 2), 3);
        refused("just below 0", x.slope(-17, 12, 1, 2), 3);
        refused("far above", x.slope(1000, 20, 1, 50), 3);
        refused("far below", x.slope(-1000, 20, 1, 50), 3);
        done("20", x.slope(20, 0, 1, 0), 0);
        done("20 again", x.slope(1000, 0, 50, 0), 1);
        done("just above 0", x.slope(17, -12, 1, 2), 2);
        done("just below 20", x.slope(3, 12, 1, 2), 3);
        done("least fraction", x.slope(1, 0, 100, 0), 4);
        done("99 - 14 roots of 50", x.slope(99, -14, 100, 50), 5);
        due("whole", x.whole(5, 100000), 5);
    }

    private void row() {
        begin("3 row");
        tell(0, 0, 0, 100, 5);
        tell(1, 1, 7, -1);
        tell(2, 2, -3, 3, 3);
        refused("the first is no step", x.row(2, 2, 3), 3);
        tell(2, 2, 3, 3, 3);
        refused("sheet", x.row(-1, 0, 1), 1);
        refused("sheet", x.row(4, 0, 1), 1);
        refused("sort", x.row(0, -1, 1), 1);
        refused("sort", x.row(0, 3, 1), 1);
        refused("n", x.row(0, 0, 0), 1);
        refused("n", x.row(0, 0, 41), 1);
        refused("missing", x.row(3, 0, 1), 10);
        refused("missing, also too long", x.row(3, 0, 40), 10);
        refused("sort", x.row(0, 1, 3), 11);
        refused("sort, also too long", x.row(0, 2, 40), 11);
        refused("sort, also no step", x.row(1, 0, 2), 11);
        refused("too long", x.row(0, 0, 4), 12);
        refused("too long, also no step", x.row(1, 1, 3), 12);
        refused("no step", x.row(1, 1, 2), 3);
        done("bytes", x.row(0, 0, 3), 0);
        steps(0, 0, 100, 5, -1);
        done("ints", x.row(1, 1, 1), 1);
        steps(1, 7, -1);
        done("longs", x.row(2, 2, 2), 2);
        steps(2, 3, 3, -1);
        x.cell(0, 1, 9);
        x.sheet(0, -1, 0);
        steps(0, 0, 100, 5, -1);
        x.sheet(0, 1, 40);
        done("forty", x.row(0, 1, 40), 3);
        due("step", x.step(3, 39), 0);
        due("step", x.step(3, 40), -1);
        for (int i = 4; i < 10; i++) {
            done("row", x.row(2, 2, 1), i);
        }
        refused("full ahead of 10", x.row(3, 0, 1), 2);
        refused("full ahead of 3", x.row(1, 1, 2), 2);
        refused("1 ahead of full", x.row(0, 1, 41), 1);
        due("count", x.count(1), 10);
    }

    private void even() {
        begin("4 even");
        refused("slope", x.even(0, 0, 1), 1);
        x.slope(3, 0, 8, 0);
        x.slope(0, 1, 1, 2);
        refused("slope", x.even(-1, 0, 1), 1);
        refused("slope", x.even(2, 0, 1), 1);
        refused("v", x.even(0, 0, 0), 1);
        refused("v", x.even(0, 0, 101), 1);
        refused("u", x.even(0, -1, 5), 1);
        refused("u", x.even(0, 5, 5), 1);
        done("fraction", x.even(0, 0, 1), 0);
        steps(0, 0, 0, 1, 0, 0, 1, 0, 1, 0, 0, 1);
        done("shift", x.even(0, 1, 2), 1);
        steps(1, 0, 1, 0, 1, 0, 0, 1, 0, 0, 1, 0);
        done("root", x.even(1, 0, 1), 2);
        steps(2, 1, 1, 2, 1, 2, 1, 1, 2, 1, 2);
        done("greatest shift", x.even(1, 99, 100), 3);
        steps(3, 2, 1, 2, 1, 2, 1, 1);
        due("kind", x.kind(3), 1);
        fillRows();
        refused("full", x.even(0, 0, 1), 2);
        refused("1 ahead of full", x.even(0, 1, 1), 1);
    }

    private void fillRows() {
        while (x.count(1) < 10) {
            x.ring(1, 1);
        }
    }

    private void ring() {
        begin("5 ring");
        refused("m", x.ring(1, 0), 1);
        refused("m", x.ring(1, 61), 1);
        refused("k", x.ring(0, 5), 1);
        refused("k", x.ring(6, 5), 1);
        done("ring", x.ring(5, 8), 0);
        steps(0, 0, 1, 0, 1, 1, 0, 1, 1, 0, 1, 0);
        done("all", x.ring(60, 60), 1);
        steps(1, 1, 1, 1);
        done("one", x.ring(1, 60), 2);
        due("step", x.step(2, 58), 0);
        due("step", x.step(2, 59), 1);
        due("step", x.step(2, 60), 0);
        done("one of one", x.ring(1, 1), 3);
        due("kind", x.kind(0), 2);
        due("no slope is made", x.count(0), 0);
        fillRows();
        refused("full", x.ring(5, 8), 2);
        refused("1 ahead of full", x.ring(0, 8), 1);
    }

    private void cut() {
        begin("6 cut");
        refused("row", x.cut(0, 0, 1, 0, 1), 1);
        x.ring(2, 3);
        refused("row", x.cut(-1, 0, 1, 0, 1), 1);
        refused("row", x.cut(1, 0, 1, 0, 1), 1);
        refused("zeros", x.cut(0, 0, 0, 0, 1), 1);
        refused("zeros", x.cut(0, 0, 7, 0, 1), 1);
        refused("ones", x.cut(0, 0, 1, 0, 0), 1);
        refused("ones", x.cut(0, 0, 1, 0, 7), 1);
        refused("bits below 0", x.cut(0, -1, 6, 0, 1), 1);
        refused("bits beyond", x.cut(0, 2, 1, 0, 1), 1);
        refused("bits beyond", x.cut(0, 0, 1, 64, 6), 1);
        refused("bits below 0", x.cut(0, 0, 1, LEAST, 6), 1);
        done("cut", x.cut(0, 1, 2, 6, 3), 1);
        steps(1, 1, 0, 0, 1, 1, 0, 1, 1, 1, 0, 0, 1, 1);
        done("cut of a cut", x.cut(1, 0, 1, 63, 6), 2);
        steps(2, 1, 1, 1, 1, 1, 1, 0, 0, 1, 1);
        due("kind", x.kind(2), 3);
        int other = told(0, 1, 2, 0);
        done("ends ahead of 2", x.cut(other, 1, 1, 0, 2), 4);
        steps(4, 1, 0, 0, -1, -1);
        int first = told(100);
        done("nothing", x.cut(first, 1, 1, 1, 1), 6);
        steps(6, -1, -1);
        due("sum of 0", x.sum(6, 0), 0);
        fillRows();
        refused("full", x.cut(0, 0, 1, 0, 1), 2);
        refused("1 ahead of full", x.cut(0, 0, 7, 0, 1), 1);
        deepCut();
    }

    private void deepCut() {
        begin("6 cut, nine deep");
        x.slope(-1, 1, 2, 5);
        x.even(0, 0, 1);
        for (int i = 0; i < 9; i++) {
            done("cut", x.cut(i, 0, 1, 1, 1), i + 1);
        }
        due("the same", x.step(9, 9999), 1);
        due("last place", x.step(9, 10000), x.step(0, 10000));
        due("sum", x.sum(9, 10000), x.sum(0, 10000));
        due("beyond", x.step(9, 10001), -1);
    }

    private void points() {
        begin("7 points");
        refused("slope", x.points(0), 1);
        x.slope(1, 1, 2, 5);
        refused("slope", x.points(-1), 1);
        refused("slope", x.points(1), 1);
        done("points", x.points(0), 0);
        steps(0, 1, 2, 1, 2, 2, 1, 2, 1, 2, 2);
        due("kind", x.kind(0), 4);
        fillRows();
        refused("full", x.points(0), 2);
        refused("1 ahead of full", x.points(1), 1);
    }

    private void dropRow() {
        begin("8 drop of rows");
        refused("what", x.drop(-1), 1);
        refused("what", x.drop(2), 1);
        refused("none", x.drop(0), 3);
        x.ring(1, 2);
        x.ring(1, 3);
        done("drop", x.drop(0), 1);
        due("kind", x.kind(1), -1);
        due("step", x.step(1, 0), -1);
        due("count", x.count(1), 1);
        x.cut(0, 1, 1, 0, 1);
        done("drop of a cut", x.drop(0), 1);
        done("again", x.cut(0, 0, 1, 1, 2), 1);
        steps(1, 0, 1, 0, 0, 1, 0);
        done("drop", x.drop(0), 1);
        done("drop", x.drop(0), 0);
        refused("none", x.drop(0), 3);
    }

    private void dropSlope() {
        begin("8 drop of slopes");
        refused("none", x.drop(1), 3);
        x.slope(1, 0, 2, 0);
        x.slope(1, 0, 3, 0);
        x.points(0);
        done("another is in use", x.drop(1), 1);
        refused("points are made of it", x.drop(1), 3);
        due("count", x.count(0), 1);
        x.drop(0);
        x.even(0, 0, 1);
        refused("an even row is made of it", x.drop(1), 3);
        x.cut(0, 0, 1, 1, 1);
        refused("so it is still", x.drop(1), 3);
        x.drop(0);
        x.drop(0);
        x.ring(1, 2);
        done("a ring is not made of it", x.drop(1), 0);
        due("whole", x.whole(0, 1), -1);
        due("count", x.count(0), 0);
    }

    private void count() {
        begin("9 count");
        x.slope(1, 0, 2, 0);
        x.slope(1, 0, 2, 0);
        x.slope(1, 0, 2, 0);
        x.even(0, 0, 1);
        x.ring(1, 2);
        x.act(0, 3, 1);
        due("slopes", x.count(0), 3);
        due("rows", x.count(1), 2);
        due("bodies", x.count(2), 6);
        due("another", x.count(3), -1);
        due("another", x.count(-1), -1);
        refused("status stays", x.drop(7), 1);
        x.count(0);
        due("status", x.status(), 1);
    }

    private void askingSlopes() {
        wholeAndAgainst();
        quotients();
        nearers();
        within();
        digits();
        share();
    }

    private void wholeAndAgainst() {
        begin("10 whole");
        x.slope(1, 1, 2, 5);
        x.slope(3, 0, 8, 0);
        x.slope(10, -3, 2, 11);
        due("0", x.whole(0, 0), 0);
        due("1", x.whole(0, 1), 1);
        due("100000", x.whole(0, 100000), 161803);
        due("fraction", x.whole(1, 7), 2);
        due("fraction", x.whole(1, 8), 3);
        due("minus a root", x.whole(2, 1000), 25);
        due("n", x.whole(0, -1), -1);
        due("n", x.whole(0, 100001), -1);
        due("slope", x.whole(3, 1), -1);
        due("slope", x.whole(-1, 1), -1);
        about = "11 against";
        due("more", x.against(0, 161, 100), 1);
        due("less", x.against(0, 162, 100), -1);
        due("more", x.against(0, 6765, 4181), 1);
        due("less", x.against(0, 10946, 6765), -1);
        due("is", x.against(1, 3750, 10000), 0);
        due("more", x.against(1, 3749, 10000), 1);
        due("less", x.against(1, 3751, 10000), -1);
        due("0", x.against(2, 0, 1), 1);
        due("most", x.against(2, 200000, 1), -1);
        due("q", x.against(0, 1, 0), -1000000);
        due("q", x.against(0, 1, 10001), -1000000);
        due("p", x.against(0, -1, 1), -1000000);
        due("p", x.against(0, 200001, 1), -1000000);
        due("slope", x.against(3, 1, 1), -1000000);
        due("slope", x.against(-1, 1, 1), -1000000);
    }

    private void quotients() {
        begin("12 quotient");
        x.slope(0, 1, 1, 7);
        x.slope(3, 0, 8, 0);
        x.slope(6, 0, 2, 0);
        x.slope(17, -12, 1, 2);
        x.slope(10, -3, 2, 11);
        int[] root = {2, 1, 1, 1, 4, 1, 1, 1, 4};
        for (int i = 0; i < root.length; i++) {
            due("root of 7, " + i, x.quotient(0, i), root[i]);
        }
        due("the last", x.quotient(0, 19), 1);
        due("at most 20", x.quotient(0, 20), -1);
        int[] fraction = {0, 2, 1, 2, -1};
        for (int i = 0; i < fraction.length; i++) {
            due("3 / 8, " + i, x.quotient(1, i), fraction[i]);
        }
        due("whole", x.quotient(2, 0), 3);
        due("whole", x.quotient(2, 1), -1);
        due("small", x.quotient(3, 0), 0);
        due("small", x.quotient(3, 1), 33);
        due("small", x.quotient(3, 2), 1);
        due("small", x.quotient(3, 3), 32);
        due("minus", x.quotient(4, 0), 0);
        due("minus", x.quotient(4, 1), 39);
        due("i", x.quotient(0, -1), -1);
        due("slope", x.quotient(5, 0), -1);
        due("slope", x.quotient(-1, 0), -1);
    }

    private void nearers() {
        begin("13 nearer");
        x.slope(-1, 1, 2, 5);
        x.slope(3, 0, 8, 0);
        x.slope(6, 0, 2, 0);
        x.slope(1, 0, 3, 0);
        int[] golden = {1, 2, 3, 5, 8, 13, 21, 34, 55, 89, 144, 233, 377, 610, 987, 1597, -1};
        for (int i = 0; i < golden.length; i++) {
            due("golden, " + i, x.nearer(0, i), golden[i]);
        }
        int[] fraction = {1, 2, 3, 8, -1};
        for (int i = 0; i < fraction.length; i++) {
            due("3 / 8, " + i, x.nearer(1, i), fraction[i]);
        }
        due("whole", x.nearer(2, 0), 1);
        due("whole", x.nearer(2, 1), -1);
        due("third", x.nearer(3, 1), 3);
        due("i", x.nearer(0, -1), -1);
        x.slope(9, 1, 51, 6);
        x.slope(5, 3, 7, 12);
        due("up to 2000", lastNearer(4), 2000);
        checks.holds("and no further: 2001 is the next line", lastNearer(5) < 2001 && hasLine(5, 2001));
        x.drop(1);
        x.drop(1);
        due("slope", x.nearer(4, 0), -1);
        due("slope", x.nearer(-1, 0), -1);
    }

    private int lastNearer(int slope) {
        int last = -1;
        for (int i = 0; i < 20 && x.nearer(slope, i) > 0; i++) {
            last = x.nearer(slope, i);
        }
        return last;
    }

    private boolean hasLine(int slope, int line) {
        for (int i = 0; i < 20; i++) {
            if (x.line(slope, i) == line) {
                return true;
            }
        }
        return false;
    }

    private void within() {
        begin("14 within");
        x.slope(-1, 1, 2, 5);
        x.slope(3, 0, 8, 0);
        due("golden", x.within(0, 1, 2, 10), 10);
        due("all", x.within(0, 0, 1000, 1000), 1);
        due("near 0", x.within(0, 0, 1, 1000), 610);
        due("near 1", x.within(0, 999, 1000, 1000), 987);
        due("at least", x.within(1, 6, 7, 8), 2);
        due("below", x.within(1, 0, 6, 8), 1);
        due("0 is in", x.within(1, 0, 1, 8), 8);
        due("below is not in", x.within(1, 13, 15, 40), -1);
        due("none", x.within(1, 1, 2, 80), -1);
        x.slope(0, 1, 10, 6);
        due("as far as 2000", x.within(2, 897, 898, 1000), 2000);
        due("no further", x.within(2, 142, 143, 1000), -1);
        x.drop(1);
        due("all of one", x.within(0, 0, 1, 1), 1);
        due("nothing between", x.within(0, 3, 3, 10), -1);
        due("the wrong way", x.within(0, 4, 3, 10), -1);
        due("q", x.within(0, 0, 0, 0), -1);
        due("q", x.within(0, 0, 1, 1001), -1);
        due("p", x.within(0, -1, 1, 10), -1);
        due("r", x.within(0, 0, 11, 10), -1);
        due("p", x.within(0, 11, 11, 10), -1);
        due("slope", x.within(2, 0, 1, 1), -1);
        due("slope", x.within(-1, 0, 1, 1), -1);
    }

    private void digits() {
        begin("15 digit, 16 line");
        x.slope(-1, 1, 2, 5);
        x.slope(3, 0, 8, 0);
        x.slope(6, 0, 2, 0);
        x.slope(0, 1, 1, 2);
        int[] golden = {1, 2, 3, 5, 8, 13, 21, 34, 55, 89, 144, 233, 377, 610, 987, 1597, 2584, 4181, 6765, -1};
        for (int i = 0; i < golden.length; i++) {
            due("line(0, " + i + ")", x.line(0, i), golden[i]);
        }
        int[] pell = {1, 2, 5, 12, 29, 70, 169, 408, 985, 2378, 5741, -1};
        for (int i = 0; i < pell.length; i++) {
            due("line(3, " + i + ")", x.line(3, i), pell[i]);
        }
        due("whole", x.line(2, 0), 1);
        due("whole", x.line(2, 1), -1);
        due("i", x.line(0, -1), -1);
        due("slope", x.line(4, 0), -1);
        x.slope(65, 11, 86, 47);
        x.slope(17, 5, 98, 47);
        checks.holds("a line of 10000", hasLine(4, 10000));
        checks.holds("none of 10001", !hasLine(5, 10001));
        x.drop(1);
        x.drop(1);
        int[] hundred = {0, 0, 1, 0, 1, 0, 0, 0, 0, 1, 0};
        for (int i = 0; i < hundred.length; i++) {
            due("digit(0, 100, " + i + ")", x.digit(0, 100, i), hundred[i]);
        }
        int[] ofEight = {1, 0, 1, 12, -1};
        for (int i = 0; i < ofEight.length; i++) {
            due("digit(1, 100, " + i + ")", x.digit(1, 100, i), ofEight[i]);
        }
        due("whole", x.digit(2, 10000, 0), 10000);
        due("two times", x.digit(3, 10, 2), 2);
        due("0", x.digit(0, 0, 0), 0);
        due("10000", x.digit(0, 10000, 18), 1);
        due("none", x.digit(0, 10000, 19), -1);
        due("number", x.digit(0, -1, 0), -1);
        due("number", x.digit(0, 10001, 0), -1);
        due("i", x.digit(0, 1, -1), -1);
        due("slope", x.digit(4, 1, 0), -1);
    }

    private void share() {
        begin("27 share");
        x.slope(1, 1, 2, 5);
        x.slope(3, 1, 2, 5);
        x.slope(2, 1, 1, 2);
        x.slope(0, 2, 4, 8);
        x.slope(3, 0, 2, 0);
        x.slope(3, 0, 1, 0);
        x.slope(1, 0, 1, 0);
        x.slope(17, -12, 1, 2);
        due("golden", x.share(0, 1), 0);
        due("golden turned", x.share(1, 0), 0);
        due("root of 2, told as one of 8", x.share(2, 3), 0);
        due("twice", x.share(0, 0), 1);
        due("not at all", x.share(1, 1), 1);
        due("other roots", x.share(0, 2), 2);
        due("fractions", x.share(4, 5), 2);
        due("all, and more", x.share(6, 5), 3);
        due("small", x.share(7, 5), 1);
        due("small", x.share(5, 7), 1);
        due("no such", x.share(8, 0), -1);
        due("no such", x.share(0, -1), -1);
        shareFar();
    }

    private void shareFar() {
        begin("27 share, far");
        x.slope(20, 0, 1, 0);
        x.slope(20, 0, 19, 0);
        due("19 is told by none", x.share(0, 1), 19);
        x.slope(1, 1, 2, 5);
        x.slope(3, 1, 2, 6);
        due("alike but for the root", x.share(2, 3), 7);
        x.slope(0, 1, 1, 2);
        x.slope(3, 1, 2, 2);
        due("the roots would fit", x.share(4, 5), 2);
        x.slope(2, 1, 1, 2);
        x.slope(4, 1, 3, 2);
        due("what is beside the roots would fit", x.share(6, 7), 2);
    }

    private void askingRows() {
        kindStepSum();
        stretches();
        ranges();
        parts();
    }

    private void kindStepSum() {
        begin("17 kind, 18 step, 19 sum");
        x.slope(20, 0, 1, 0);
        x.slope(-1, 1, 2, 5);
        x.even(0, 0, 1);
        x.even(1, 3, 7);
        int row = told(4, 0, 100);
        x.cut(1, 2, 2, 7, 3);
        due("kind", x.kind(-1), -1);
        due("kind", x.kind(4), -1);
        due("kind", x.kind(row), 0);
        due("step", x.step(0, 10000), 20);
        due("step", x.step(0, 10001), -1);
        due("step", x.step(0, -1), -1);
        due("step", x.step(0, LEAST), -1);
        due("step", x.step(0, MOST), -1);
        due("step", x.step(4, 0), -1);
        due("step", x.step(3, 10001), -1);
        due("step", x.step(3, -1), -1);
        due("sum", x.sum(0, 0), 0);
        due("sum", x.sum(0, 10000), 200000);
        due("sum", x.sum(0, 10001), -1);
        due("sum", x.sum(0, -1), -1);
        due("sum", x.sum(-1, 0), -1);
        due("sum", x.sum(4, 0), -1);
        due("sum", x.sum(row, 3), 104);
        due("sum", x.sum(row, 4), -1);
        due("sum", x.sum(row, 0), 0);
        for (int cut = 1; cut <= 3; cut += 2) {
            int sum = 0;
            for (int n = 0; n < 300; n++) {
                due("sum(" + cut + ", " + n + ")", x.sum(cut, n), sum);
                sum += x.step(cut, n);
            }
        }
    }

    private void stretches() {
        begin("20 isEven, 21 clash");
        x.slope(-1, 1, 2, 5);
        x.even(0, 0, 1);
        int row = told(5, 0, 1, 1, 0, 1, 0, 0, 1);
        due("even", x.isEven(0, 0, 40), 1);
        due("last", x.isEven(0, 9961, 40), 1);
        due("lacks", x.isEven(0, 9962, 40), -1);
        due("last place", x.isEven(0, 10000, 1), 1);
        due("beyond", x.isEven(0, 10001, 1), -1);
        due("n", x.isEven(0, 0, 0), -1);
        due("n", x.isEven(0, 0, 41), -1);
        due("from", x.isEven(0, -1, 4), -1);
        due("from", x.isEven(0, MOST, 40), -1);
        due("row", x.isEven(2, 0, 4), -1);
        due("told", x.isEven(row, 0, 9), 0);
        due("told", x.isEven(row, 1, 6), 1);
        due("told", x.isEven(row, 1, 7), 0);
        due("told", x.isEven(row, 1, 9), -1);
        clash(row, 0, 9, 1, 0, 1);
        clash(row, 1, 7, 2, 3 - 1, 6);
        clash(row, 1, 8, 2, 2, 6);
        clash(row, 2, 7, 2, 2, 6);
        clash(row, 1, 6, -1, -1, -1);
        clash(row, 1, 9, -1, -1, -1);
        clash(0, 0, 40, -1, -1, -1);
        due("what", x.clash(row, 0, 9, 3), -1);
        due("what", x.clash(row, 0, 9, -1), -1);
        due("row", x.clash(2, 0, 9, 0), -1);
        int later = told(1, 2, 1, 3, 0, 3);
        clash(later, 0, 6, 1, 0, 3);
        clash(later, 0, 4, 1, 0, 3);
        clash(later, 1, 4, 1, 1, 4);
    }

    private void clash(int row, int from, int n, int length, int first, int other) {
        String call = "clash(" + row + ", " + from + ", " + n + ", ";
        due(call + "0)", x.clash(row, from, n, 0), length);
        due(call + "1)", x.clash(row, from, n, 1), first);
        due(call + "2)", x.clash(row, from, n, 2), other);
    }

    private void ranges() {
        begin("22 range");
        x.slope(-1, 1, 2, 5);
        x.even(0, 0, 1);
        x.slope(3, 0, 1, 0);
        x.even(1, 0, 1);
        range(0, 0, 10, 4, 7, 5, 8);
        range(0, 0, 1, -1, 1, 1, 1);
        range(0, 1, 1, 0, 1, 2, 1);
        range(1, 0, 4, 11, 4, 13, 4);
        range(1, 9961, 40, 119, 40, 121, 40);
        int row = told(0, 0, 2, 0, 0, 0);
        range(row, 0, 2, -1, 2, 1, 2);
        range(row, 3, 3, -1, 3, 1, 3);
        range(row, 2, 1, 1, 1, 3, 1);
        none(row, 0, 3);
        none(row, 0, 7);
        none(row, 0, 0);
        none(row, -1, 2);
        none(5, 0, 2);
        none(0, 0, 41);
        due("what", x.range(0, 0, 10, -1), -1000000);
        due("what", x.range(0, 0, 10, 4), -1000000);
        int edge = told(1, 0, 0, 1, 0, 1);
        range(edge, 0, 5, 1, 4, 1, 2);
        range(edge, 0, 6, 1, 3, 1, 2);
        // the sums allow 1 / 2 alone, and it is at both ends
        none(told(1, 1, 0, 0), 0, 4);
    }

    private void range(int row, int from, int n, int... fractions) {
        for (int what = 0; what < 4; what++) {
            due("range(" + row + ", " + from + ", " + n + ", " + what + ")", x.range(row, from, n, what),
                    fractions[what]);
        }
    }

    private void none(int row, int from, int n) {
        range(row, from, n, -1000000, -1000000, -1000000, -1000000);
    }

    private void parts() {
        begin("23 parts");
        x.slope(-1, 1, 2, 5);
        x.even(0, 0, 1);
        for (int length = 1; length <= 12; length++) {
            due("golden", x.parts(0, length, 0), length + 1);
            due("golden backward", x.parts(0, length, 1), length % 2 == 1 ? 2 : 1);
        }
        int row = told(1, 2, 1, 2, 2, 1);
        due("told", x.parts(row, 1, 0), 2);
        due("told", x.parts(row, 2, 0), 3);
        due("told", x.parts(row, 2, 1), 1);
        due("told", x.parts(row, 3, 0), 4);
        due("told", x.parts(row, 3, 1), 2);
        due("told", x.parts(row, 6, 0), 1);
        due("lacks", x.parts(row, 7, 0), 0);
        due("lacks", x.parts(row, 7, 1), 0);
        due("length", x.parts(0, 0, 0), -1);
        due("length", x.parts(0, 13, 0), -1);
        due("what", x.parts(0, 1, -1), -1);
        due("what", x.parts(0, 1, 2), -1);
        due("row", x.parts(2, 1, 0), -1);
        x.slope(1, 0, 100, 0);
        x.even(1, 0, 1);
        due("a step in a hundred", x.parts(2, 12, 0), 13);
        x.ring(1, 60);
        due("ring", x.parts(3, 12, 0), 13);
        partPlaces();
        int hundreds = told(100, 37, 100, 36, 100, 37, 100);
        due("great steps", x.parts(hundreds, 3, 0), 4);
        due("great steps", x.parts(hundreds, 3, 1), 2);
    }

    /** 198 times 0, and then a 1 at 199, or at 200. */
    private void partPlaces() {
        int[] steps = new int[34];
        steps[33] = 1;
        int source = told(steps);
        int near = x.cut(source, 0, 6, 2, 2);
        int far = x.cut(source, 0, 6, 4, 3);
        due("step", x.step(near, 199), 1);
        due("step", x.step(far, 200), 1);
        due("a part at 199", x.parts(near, 1, 0), 2);
        due("none at 200", x.parts(far, 1, 0), 1);
        due("a part that ends at 200", x.parts(far, 2, 0), 2);
        due("a part that lacks", x.parts(near, 2, 0), 2);
        due("a part that lacks", x.parts(near, 2, 1), 1);
    }

    private void askingPoints() {
        begin("24 gaps, 25 gap, 26 follows");
        x.slope(-1, 1, 2, 5);
        x.slope(3, 0, 8, 0);
        x.slope(6, 0, 16, 0);
        x.slope(4, 0, 1, 0);
        x.points(0);
        x.points(1);
        x.points(2);
        x.points(3);
        x.even(0, 0, 1);
        due("three", x.gaps(0, 10), 3);
        due("two", x.gaps(0, 13), 2);
        due("sixty", x.gaps(0, 60), 3);
        due("one", x.gaps(0, 1), 1);
        due("fraction", x.gaps(1, 8), 1);
        due("fraction", x.gaps(1, 9), -1);
        due("fraction", x.gaps(1, 3), 2);
        due("lowest terms", x.gaps(2, 8), 1);
        due("lowest terms", x.gaps(2, 9), -1);
        due("whole", x.gaps(3, 1), 1);
        due("whole", x.gaps(3, 2), -1);
        due("kind", x.gaps(4, 3), -1);
        due("row", x.gaps(5, 3), -1);
        due("row", x.gaps(-1, 3), -1);
        due("n", x.gaps(0, 0), -1);
        due("n", x.gaps(0, 61), -1);
        gap(0, 10, 0, 3, 2, -3);
        gap(0, 10, 1, 5, -3, 5);
        gap(0, 10, 2, 2, 5, -8);
        gap(0, 1, 0, 1, 1, 0);
        gap(0, 2, 0, 1, 0, 1);
        gap(0, 2, 1, 1, 1, -1);
        gap(1, 8, 0, 8, -1, 3);
        gap(1, 3, 0, 2, 0, 1);
        gap(1, 3, 1, 1, 1, -2);
        gap(3, 1, 0, 1, 1, 0);
        due("i", x.gap(0, 10, 3, 0), -1000000);
        due("i", x.gap(0, 10, -1, 0), -1000000);
        due("what", x.gap(0, 10, 0, 3), -1000000);
        due("what", x.gap(0, 10, 0, -1), -1000000);
        due("kind", x.gap(4, 10, 0, 0), -1000000);
        due("n", x.gap(0, 61, 0, 0), -1000000);
        due("n", x.gap(1, 9, 0, 0), -1000000);
        int[] behind = {5, 6, 7, 8, 9, 2, 3, 4, 0, 1};
        for (int i = 0; i < 10; i++) {
            due("follows(0, 10, " + i + ")", x.follows(0, 10, i), behind[i]);
        }
        due("itself", x.follows(0, 1, 0), 0);
        due("i", x.follows(0, 10, 10), -1);
        due("i", x.follows(0, 10, -1), -1);
        due("n", x.follows(0, 61, 0), -1);
        due("n", x.follows(0, 0, 0), -1);
        due("n", x.follows(1, 9, 0), -1);
        due("kind", x.follows(4, 3, 0), -1);
        due("row", x.follows(5, 3, 0), -1);
    }

    private void gap(int row, int n, int i, int count, int whole, int times) {
        String call = "gap(" + row + ", " + n + ", " + i + ", ";
        due(call + "0)", x.gap(row, n, i, 0), count);
        due(call + "1)", x.gap(row, n, i, 1), whole);
        due(call + "2)", x.gap(row, n, i, 2), times);
    }

    private void askingNumbers() {
        begin("28 spread");
        due("5 of 8", x.spread(5, 8), 109);
        due("3 of 8", x.spread(3, 8), 73);
        due("4 of 8", x.spread(4, 8), 85);
        due("2 of 5", x.spread(2, 5), 5);
        due("1 of 1", x.spread(1, 1), 1);
        due("0 of 1", x.spread(0, 1), 0);
        due("1 of 40", x.spread(1, 40), 1);
        due("40 of 40", x.spread(40, 40), (1L << 40) - 1);
        due("39 of 40", x.spread(39, 40), (1L << 39) - 1);
        due("20 of 40", x.spread(20, 40), 0x5555555555L);
        due("m", x.spread(0, 0), -1);
        due("m", x.spread(1, 41), -1);
        due("k", x.spread(-1, 5), -1);
        due("k", x.spread(6, 5), -1);
        about = "29 turning";
        due("turning", x.turning(181, 8), 1);
        due("turning", x.turning(0b0110, 4), 3);
        due("the first", x.turning(0b0101, 4), 1);
        due("alike", x.turning(0, 40), 0);
        due("alike", x.turning(-1, 40), 0);
        due("one", x.turning(1, 1), 0);
        due("one at the last place", x.turning(1L << 39, 40), 0);
        due("one at the first place", x.turning(1, 40), 1);
        due("beyond does not matter", x.turning(~0L << 40 | 1, 40), 1);
        due("beyond does not matter", x.turning(0b0110 | 1 << 4, 4), 3);
        due("m", x.turning(1, 0), -1);
        due("m", x.turning(1, 41), -1);
        heaps();
    }

    private void heaps() {
        begin("30 wins, 31 takes");
        due("nothing", x.wins(0, 0), 0);
        due("nothing", x.takes(0, 0), -1);
        int[][] lost = {{1, 2}, {3, 5}, {4, 7}, {6, 10}, {8, 13}, {1236, 2000}};
        for (int[] pair : lost) {
            due("lost", x.wins(pair[0], pair[1]), 0);
            due("lost", x.wins(pair[1], pair[0]), 0);
            due("lost", x.takes(pair[0], pair[1]), -1);
            due("lost", x.takes(pair[1], pair[0]), -1);
            due("one too many", x.takes(pair[0], pair[1] + 1), pair[1] < 2000 ? 2000001 : -1);
        }
        due("wins", x.wins(4, 4), 1);
        due("wins", x.wins(2000, 2000), 1);
        due("both", x.takes(4, 4), 3000004);
        due("first ahead of both", x.takes(2000, 2000), 1000764);
        due("both", x.takes(4, 6), 3000001);
        due("first", x.takes(6, 2), 1000005);
        due("first ahead of second", x.takes(2000, 5), 1001997);
        due("second", x.takes(3, 6), 2000001);
        due("second", x.takes(0, 2000), 2002000);
        due("first ahead of both", x.takes(3, 2), 1000002);
        due("a", x.wins(-1, 0), -1);
        due("a", x.wins(2001, 0), -1);
        due("b", x.wins(0, -1), -1);
        due("b", x.wins(0, 2001), -1);
        due("a", x.takes(-1, 5), -1);
        due("b", x.takes(5, 2001), -1);
    }

    private void acting() {
        begin("32 act, 33 trace");
        due("none yet", x.trace(0), -1);
        x.slope(1, 1, 2, 5);
        int row = told(3, 4);
        x.even(0, 0, 1);
        x.ring(2, 3);
        x.cut(2, 1, 2, 3, 2);
        x.points(0);
        int alone = told(9);
        act(row, 0, 5, 9, 10);
        act(row, 1, 5, 27, 11, 10);
        act(row, 2, 5, 5, 12);
        act(row, 3, 5, 27 ^ 5, 13, 11, 10, 12);
        act(1, 0, 5, 14, 20, 10);
        act(1, 1, 5, 42, 11, 20, 10);
        act(1, 2, 5, 11, 21, 12);
        act(1, 3, 5, 42 ^ 11, 13, 11, 20, 10, 21, 12);
        act(2, 0, 5, 12, 20, 10);
        act(2, 1, 5, 42, 30, 11, 20, 10);
        act(2, 2, 5, 10, 21, 12);
        act(2, 3, 5, (42 ^ 10) - 10, 31, 13, 30, 11, 20, 10, 21, 12, 21, 12);
        act(3, 0, 5, 5, 40, 10);
        act(3, 1, 5, 15, 11, 40, 10);
        act(3, 2, 5, 10, 41, 12);
        act(3, 3, 5, 15 ^ 10, 13, 11, 40, 10, 41, 12);
        act(4, 0, 5, 14, 20, 10);
        act(4, 1, 5, 56, 51, 11, 20, 10, 20, 10);
        act(4, 2, 5, 8 ^ 9, 50, 21, 12);
        act(4, 3, 5, 56 ^ 8 ^ 9, 13, 51, 11, 20, 10, 20, 10, 50, 21, 12);
        act(alone, 0, 5, 5, 10);
        act(row, 0, MOST, LEAST + 3, 10);
        act(row, 1, MOST, (LEAST + 3) * 3, 11, 10);
        act(1, 2, MOST, LEAST + 5, 21, 12);
        act(row, 2, -1, -1, 12);
        refused("row", x.act(-1, 0, 1), 1);
        refused("row", x.act(6, 0, 1), 1);
        refused("act", x.act(0, -1, 1), 1);
        refused("act", x.act(0, 4, 1), 1);
        due("the trace stays", x.count(2), 1);
        due("the trace stays", x.trace(0), 12);
        due("i", x.trace(-1), -1);
        x.drop(0);
        due("the trace stays", x.trace(0), 12);
    }

    private void act(int row, int act, int number, int answer, int... bodies) {
        String call = "act(" + row + ", " + act + ", " + number + ")";
        done(call, x.act(row, act, number), answer);
        due(call + " bodies", x.count(2), bodies.length);
        for (int i = 0; i < bodies.length; i++) {
            due(call + " body " + i, x.trace(i), bodies[i]);
        }
        due(call + " no more", x.trace(bodies.length), -1);
    }

    private void hosting() {
        sheets();
        forgeKinds();
        forgeSheets();
        forgeRest();
        status();
    }

    private void sheets() {
        begin("34 sheet, 35 cell");
        refused("sheet", x.sheet(-1, 0, 1), 1);
        refused("sheet", x.sheet(4, 0, 1), 1);
        refused("sort", x.sheet(0, -2, 1), 1);
        refused("sort", x.sheet(0, 3, 1), 1);
        refused("n", x.sheet(0, 0, -1), 1);
        refused("n", x.sheet(0, 0, 41), 1);
        refused("so it is missing", x.cell(0, 0, 1), 10);
        done("sheet", x.sheet(0, 0, 40), 1);
        done("cell", x.cell(0, 39, 100), 1);
        done("cell", x.cell(0, 0, -100), 1);
        refused("i", x.cell(0, 40, 1), 12);
        refused("i", x.cell(0, -1, 1), 12);
        refused("v", x.cell(0, 0, 101), 1);
        refused("v", x.cell(0, 0, -101), 1);
        refused("1 ahead of 10", x.cell(1, 0, 101), 1);
        refused("10 ahead of 12", x.cell(1, -1, 1), 10);
        refused("sheet", x.cell(-1, 0, 1), 1);
        refused("sheet", x.cell(4, 0, 1), 1);
        done("none at all", x.sheet(1, 2, 0), 1);
        refused("none at all", x.cell(1, 0, 1), 12);
        done("missing", x.sheet(0, -1, 77), 1);
        refused("missing", x.cell(0, 0, 1), 10);
        done("anew", x.sheet(0, 1, 40), 1);
        done("all are 0", x.forge(2, 39, 0), 0);
        done("cell", x.cell(0, 7, -5), 1);
        done("as told", x.forge(2, 7, 0), -5);
        done("anew", x.sheet(0, 1, 8), 1);
        done("all are 0", x.forge(2, 7, 0), 0);
        x.cell(0, 0, 9);
        x.sheet(0, 1, 8);
        done("the first too", x.forge(2, 0, 0), 0);
        refused("refused", x.sheet(0, 1, 41), 1);
        done("changes nothing", x.forge(2, 7, 0), 0);
    }

    private void forgeKinds() {
        begin("36 forge of kinds");
        x.slope(1, 0, 2, 0);
        told(1);
        x.even(0, 0, 1);
        x.ring(1, 2);
        x.cut(0, 0, 1, 0, 1);
        x.points(0);
        boolean[][] fits = {{true, false, false, false, false}, {true, true, false, false, false},
            {true, true, true, false, false}, {true, false, false, true, false}, {true, true, false, false, true}};
        for (int row = 0; row < 5; row++) {
            for (int kind = 0; kind < 5; kind++) {
                for (int turn = -10; turn <= 10; turn += 10) {
                    forgeKind(row, kind, turn, fits[row][kind]);
                }
            }
            for (int turn = -10; turn <= 10; turn += 10) {
                if (fits[row][1]) {
                    done("put", x.forge(4, 0, row + turn), row);
                } else {
                    refused("put", x.forge(4, 0, row + turn), 14);
                }
            }
        }
        refused("none", x.forge(0, 0, 5), 10);
        refused("none", x.forge(0, 1, -1), 10);
        done("none is put", x.forge(4, 0, 5), 0);
        done("none is put", x.forge(4, 0, -1), 0);
    }

    private void forgeKind(int row, int kind, int turn, boolean fits) {
        String call = "forge(0, " + (kind + turn) + ", " + (row + turn) + ")";
        if (fits) {
            done(call, x.forge(0, kind + turn, row + turn), row);
        } else {
            refused(call, x.forge(0, kind + turn, row + turn), 11);
        }
    }

    private void forgeSheets() {
        begin("36 forge of sheets");
        tell(0, 0, 50, 1, -7, 20, 100);
        tell(1, 1, 4, -1, 6);
        tell(2, 2, 1);
        refused("missing", x.forge(2, 0, 3), 10);
        refused("missing", x.forge(2, -1, -1), 10);
        refused("sort", x.forge(2, 0, 0), 11);
        refused("sort ahead of place", x.forge(2, -1, 2), 11);
        done("number", x.forge(2, 0, 1), 4);
        done("number", x.forge(2, 1, -3), -1);
        done("number", x.forge(2, 2, 97), 6);
        refused("place", x.forge(2, 3, 1), 12);
        refused("place", x.forge(2, -1, 1), 12);
        refused("missing", x.forge(3, 0, 3), 10);
        refused("missing", x.forge(3, -1, 3), 10);
        refused("sort", x.forge(3, 0, 1), 11);
        refused("sort ahead of place", x.forge(3, -1, 2), 11);
        done("none", x.forge(3, 0, 0), 0);
        done("one", x.forge(3, 1, 0), 1);
        done("two", x.forge(3, 2, -4), -6);
        done("three", x.forge(3, 3, 100), 14);
        refused("four do not stand in 6", x.forge(3, 4, 0), 12);
        refused("below 0", x.forge(3, -1, 0), 12);
        x.sheet(0, 0, 3);
        done("two", x.forge(3, 2, 0), 0);
        refused("three do not stand in it", x.forge(3, 3, 0), 12);
        x.sheet(0, 0, 1);
        done("none of one", x.forge(3, 0, 0), 0);
        refused("one of one", x.forge(3, 1, 0), 12);
        x.sheet(0, 0, 0);
        refused("no numbers at all", x.forge(3, 0, 0), 12);
    }

    private void forgeRest() {
        begin("36 forge");
        refused("what", x.forge(-1, 0, 0), 1);
        refused("what", x.forge(7, 0, 0), 1);
        for (int what = 0; what <= 6; what++) {
            refused("n", x.forge(what, -101, 0), 1);
            refused("n", x.forge(what, 101, 0), 1);
            refused("k", x.forge(what, 1, -101), 1);
            refused("k", x.forge(what, 1, 101), 1);
        }
        done("size", x.forge(1, 100, 0), 100);
        done("size", x.forge(1, 0, 0), 0);
        refused("size", x.forge(1, -1, 0), 13);
        refused("size", x.forge(1, -100, -100), 13);
        done("divided", x.forge(5, 3, 0), 333);
        done("divided", x.forge(5, -3, 0), -333);
        done("divided", x.forge(5, 100, 0), 10);
        refused("divided", x.forge(5, 0, 0), 15);
        refused("none is thrown", x.forge(6, 0, 0), 10);
        refused("none is thrown", x.forge(6, -2, 0), 10);
        done("caught", x.forge(6, 1, 0), 1);
        done("caught", x.forge(6, -1, 0), 1);
    }

    private void status() {
        begin("37 status");
        refused("forge", x.forge(5, 0, 0), 15);
        askAll();
        due("questions leave it", x.status(), 15);
        done("sheet", x.sheet(0, 0, 1), 1);
        due("done", x.status(), 0);
        askAll();
        due("questions leave it", x.status(), 0);
    }

    private void askAll() {
        x.count(9);
        x.whole(9, 9);
        x.against(9, 9, 9);
        x.quotient(9, 9);
        x.nearer(9, 9);
        x.within(9, 9, 9, 9);
        x.digit(9, 9, 9);
        x.line(9, 9);
        x.kind(99);
        x.step(99, 9);
        x.sum(99, 9);
        x.isEven(99, 9, 9);
        x.clash(99, 9, 9, 9);
        x.range(99, 9, 9, 9);
        x.parts(99, 9, 9);
        x.gaps(99, 9);
        x.gap(99, 9, 9, 9);
        x.follows(99, 9, 9);
        x.share(9, 9);
        x.spread(9, 0);
        x.turning(9, 0);
        x.wins(-9, 9);
        x.takes(-9, 9);
        x.trace(99);
    }
}
