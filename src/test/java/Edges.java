import java.util.ArrayList;
import java.util.List;

/**
 * What the tests of edges have in common. Each test begins with a sentence of the document, as it stands there.
 *
 * <p>Calls that are taken are made on two objects, calls that are refused on one of them alone: when the test ends,
 * both must answer alike, since a refused call changes nothing but STATUS.
 */
abstract class Edges {
    static final int MOST = Integer.MAX_VALUE;
    static final int LEAST = Integer.MIN_VALUE;
    static final int NO = -1000000;

    /** A call on one of the two objects. */
    interface Call {
        long on(EvenSteps x);
    }

    private static final int MOST_CALLS = 512;
    private final Checks checks;
    private final Sentences sentences;
    private EvenSteps x;
    private EvenSteps spared;
    private int calls;
    private String about = "";

    Edges(Checks checks, Sentences sentences) {
        this.checks = checks;
        this.sentences = sentences;
    }

    abstract void run();

    /** Begins the test of a sentence of a promise (0: of what stands ahead of them), on a new object. */
    final void sentence(int promise, String words) {
        end();
        about = promise + " '" + words + "'";
        checks.holds(about + " stands in the document", sentences.quote(promise, words));
        x = new EvenSteps();
        spared = new EvenSteps();
        calls = 0;
    }

    /** Goes on with the same sentence on a new object: each is used for 512 calls at most. */
    final void anew() {
        String same = about;
        end();
        about = same;
        x = new EvenSteps();
        spared = new EvenSteps();
        calls = 0;
    }

    final void end() {
        if (x != null) {
            checks.same(about + ": alike but for the refused calls", differences(), 0);
            checks.holds(about + ": " + calls + " calls", calls <= MOST_CALLS);
        }
        x = null;
        spared = null;
    }

    /** A call that is no question is done. */
    final void taken(long due, Call call) {
        check("taken", call.on(x), due);
        check("status", x.status(), 0);
        call.on(spared);
        calls += 2;
    }

    /** A call that is no question is refused. */
    final void refused(int why, Call call) {
        check("refused", call.on(x), -1);
        check("status", x.status(), why);
        calls += 2;
    }

    /** A question, which leaves STATUS as it was. */
    final void asked(long due, Call call) {
        int before = x.status();
        check("asked", call.on(x), due);
        check("status", x.status(), before);
        calls += 3;
    }

    /** Answers of the calls with 0, 1, 2 .. */
    final void askedEach(CallWith call, long... due) {
        for (int i = 0; i < due.length; i++) {
            int number = i;
            asked(due[i], y -> call.on(y, number));
        }
    }

    /** A call with one number. */
    interface CallWith {
        long on(EvenSteps x, int number);
    }

    final void clash(int row, int from, int n, long... due) {
        askedEach((y, what) -> y.clash(row, from, n, what), due);
    }

    final void range(int row, int from, int n, long... due) {
        askedEach((y, what) -> y.range(row, from, n, what), due);
    }

    final void gap(int row, int n, int sort, long... due) {
        askedEach((y, what) -> y.gap(row, n, sort, what), due);
    }

    /** Makes SHEET 3 one of ints with these numbers, and a ROW of them: its number. */
    final int told(int... steps) {
        sheet(3, 1, steps);
        int number = x.count(1);
        calls++;
        taken(number, y -> y.row(3, 1, steps.length));
        return number;
    }

    final void sheet(int sheet, int sort, int... numbers) {
        taken(1, y -> y.sheet(sheet, sort, numbers.length));
        for (int i = 0; i < numbers.length; i++) {
            int place = i;
            if (numbers[i] != 0) {
                taken(1, y -> y.cell(sheet, place, numbers[place]));
            }
        }
    }

    final void fillRows() {
        for (int i = x.count(1); i < 10; i++) {
            int number = i;
            taken(number, y -> y.ring(1, 1));
        }
        calls++;
    }

    final void fillSlopes() {
        for (int i = x.count(0); i < 8; i++) {
            int number = i;
            taken(number, y -> y.slope(1, 0, 1, 0));
        }
        calls++;
    }

    private void check(String what, long got, long due) {
        if (got == due) {
            checks.same("", got, due);
        } else {
            checks.same(about + ", " + caller() + " " + what, got, due);
        }
    }

    /** Where in the test the call stands. */
    private String caller() {
        StackTraceElement at = StackWalker.getInstance().walk(frames -> frames
                .filter(frame -> !frame.getClassName().startsWith("Edges") && !frame.getMethodName().contains("lambda"))
                .findFirst().map(StackWalker.StackFrame::toStackTraceElement).orElseThrow());
        return at.getFileName() + ":" + at.getLineNumber();
    }

    private int differences() {
        List<Long> mine = answers(x);
        List<Long> others = answers(spared);
        int differences = mine.size() == others.size() ? 0 : 1;
        for (int i = 0; i < mine.size() && i < others.size(); i++) {
            differences += mine.get(i).equals(others.get(i)) ? 0 : 1;
        }
        calls += mine.size();
        return differences;
    }

    /** What an object tells of all that it holds. */
    private static List<Long> answers(EvenSteps of) {
        List<Long> all = new ArrayList<>();
        for (int i = 0; i < 3; i++) {
            all.add((long) of.count(i));
        }
        for (int i = 0; i < 14; i++) {
            all.add((long) of.trace(i));
        }
        for (int i = 0; i < of.count(0); i++) {
            all.add((long) of.whole(i, 100000));
            all.add((long) of.line(i, 2));
        }
        for (int i = 0; i < of.count(1); i++) {
            all.add((long) of.kind(i));
            all.add((long) of.step(i, 0));
            all.add((long) of.step(i, 10000));
            all.add((long) of.sum(i, 12));
        }
        for (int i = 0; i < 4; i++) {
            tellSheet(of, i, all);
        }
        all.add((long) of.ring(1, 2));
        all.add((long) of.drop(0));
        all.add((long) of.slope(1, 0, 2, 0));
        all.add((long) of.drop(1));
        return all;
    }

    private static void tellSheet(EvenSteps of, int sheet, List<Long> all) {
        of.drop(0);
        for (int sort = 0; sort < 3; sort++) {
            long row = of.row(sheet, sort, 1);
            all.add(row);
            all.add((long) of.status());
            if (row >= 0) {
                all.add((long) of.step((int) row, 0));
                of.drop(0);
            }
        }
        for (int i = 0; i < 4; i++) {
            all.add((long) of.forge(2, i, sheet));
            all.add((long) of.forge(3, i, sheet));
        }
        all.add((long) of.cell(sheet, 4, 1));
        all.add((long) of.cell(sheet, 39, 1));
    }
}
