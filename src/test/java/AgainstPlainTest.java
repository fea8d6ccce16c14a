import java.lang.reflect.Method;
import java.util.Random;
import java.util.StringJoiner;

/** Runs of random calls on the class and on PlainSteps: all answers, and all STATUS, must be the same. */
public final class AgainstPlainTest {
    private static final int[][] SLOPES = {{-1, 1, 2, 5}, {3, 0, 8, 0}, {1, 1, 2, 5}, {3, 1, 2, 5}, {0, 1, 1, 2},
        {2, 1, 1, 2}, {0, 2, 4, 8}, {5, -1, 4, 7}, {7, 0, 5, 3}, {2, 0, 1, 9}, {37, 0, 60, 0}, {-7, 5, 3, 12},
        {1, 0, 100, 0}, {20, 0, 1, 0}, {99, -14, 100, 50}, {0, 20, 8, 50}, {1000, -20, 43, 50}};
    private static final String[] CALLS = {"slope", "slope", "row", "row", "even", "even", "even", "ring", "ring",
        "cut", "cut", "cut", "points", "points", "points", "drop", "count", "whole", "against", "quotient", "nearer",
        "within", "digit", "line", "kind", "step", "sum", "isEven", "clash", "clash", "range", "range", "parts",
        "gaps", "gap", "gap", "follows", "share", "spread", "turning", "wins", "takes", "act", "act", "trace",
        "sheet", "sheet", "cell", "cell", "cell", "cell", "forge", "forge", "forge"};

    private final Random random;
    private final EvenSteps subject = new EvenSteps();
    private final PlainSteps plain = new PlainSteps();
    private final Checks checks;

    private AgainstPlainTest(long seed, Checks checks) {
        random = new Random(seed);
        this.checks = checks;
    }

    public static void main(String[] args) throws Exception {
        Checks checks = new Checks();
        int runs = args.length > 0 ? Integer.parseInt(args[0]) : 150;
        long seed = args.length > 1 ? Long.parseLong(args[1]) : 1;
        for (int run = 0; run < runs; run++) {
            AgainstPlainTest test = new AgainstPlainTest(seed * 1000003 + run, checks);
            for (int i = 0; i < 200; i++) {
                test.callOnce(run);
            }
        }
        checks.end();
    }

    private void callOnce(int run) throws Exception {
        String name = CALLS[random.nextInt(CALLS.length)];
        long[] values = random.nextInt(20) == 0 ? wild(name) : usual(name);
        Object[] args = new Object[values.length];
        Class<?>[] types = new Class<?>[values.length];
        StringJoiner told = new StringJoiner(", ", "run " + run + ": " + name + "(", ")");
        for (int i = 0; i < values.length; i++) {
            boolean isLong = name.equals("turning") && i == 0;
            types[i] = isLong ? long.class : int.class;
            args[i] = isLong ? (Object) values[i] : (Object) (int) values[i];
            told.add(String.valueOf(values[i]));
        }
        Method mine = EvenSteps.class.getMethod(name, types);
        Method theirs = PlainSteps.class.getDeclaredMethod(name, types);
        long got = ((Number) mine.invoke(subject, args)).longValue();
        long due = ((Number) theirs.invoke(plain, args)).longValue();
        checks.same(told.toString(), got, due);
        checks.same(told + " status", subject.status(), plain.status());
        checks.same(told + " trace", subject.count(2), plain.count(2));
    }

    private int upTo(int most) {
        return random.nextInt(most + 1);
    }

    /** Mostly within the bounds, at times just outside them. */
    private int about(int low, int high) {
        return low - (random.nextInt(25) == 0 ? 1 : 0) + random.nextInt(high - low + 1)
                + (random.nextInt(25) == 0 ? 1 : 0);
    }

    private long[] wild(String name) {
        long[] usual = usual(name);
        for (int i = 0; i < usual.length; i++) {
            int sort = random.nextInt(6);
            if (sort == 0) {
                usual[i] = random.nextInt();
            } else if (sort == 1) {
                usual[i] = random.nextBoolean() ? Integer.MAX_VALUE : Integer.MIN_VALUE;
            } else if (sort == 2) {
                usual[i] = -usual[i];
            }
        }
        return usual;
    }

    private int aSlope() {
        return Math.max(-1, upTo(Math.max(1, plain.count(0))) - (random.nextInt(9) == 0 ? 0 : 1));
    }

    private int aRow() {
        return Math.max(-1, upTo(Math.max(1, plain.count(1))) - (random.nextInt(9) == 0 ? 0 : 1));
    }

    private int aPlace() {
        return random.nextInt(6) == 0 ? 9960 + upTo(45) : upTo(60);
    }

    private int aPointsRow() {
        for (int i = 0; i < 5; i++) {
            int row = aRow();
            if (plain.kind(row) == 4) {
                return row;
            }
        }
        return aRow();
    }

    private long[] usual(String name) {
        int m = about(1, 60);
        switch (name) {
            case "slope":
                int[] known = SLOPES[random.nextInt(SLOPES.length)];
                if (random.nextInt(3) > 0) {
                    return new long[] {known[0], known[1], known[2], known[3]};
                }
                return new long[] {random.nextInt(120) - 20, random.nextInt(9) - 4, about(1, 20), about(2, 50)};
            case "row":
                return new long[] {about(0, 3), about(0, 2), about(1, 8)};
            case "even":
                int v = about(1, 20);
                return new long[] {aSlope(), upTo(Math.max(0, v)) - (random.nextInt(4) == 0 ? 0 : 1), v};
            case "ring":
                return new long[] {about(1, Math.max(1, m)), m};
            case "cut":
                int zeros = about(1, 6);
                int ones = about(1, 6);
                return new long[] {aRow(), upTo((1 << Math.max(0, zeros)) - (random.nextInt(6) == 0 ? 0 : 1)), zeros,
                    upTo((1 << Math.max(0, ones)) - (random.nextInt(6) == 0 ? 0 : 1)), ones};
            case "points":
                return new long[] {aSlope()};
            case "drop":
                return new long[] {about(0, 1)};
            case "count":
                return new long[] {about(0, 2)};
            case "whole":
                return new long[] {aSlope(), random.nextBoolean() ? upTo(300) : about(99000, 100000)};
            case "against":
                return new long[] {aSlope(), upTo(40), about(1, 30)};
            case "quotient":
            case "nearer":
            case "line":
                return new long[] {aSlope(), about(0, 20)};
            case "within":
                int q = random.nextBoolean() ? about(1, 30) : about(1, 1000);
                return new long[] {aSlope(), about(0, Math.max(1, q)), about(0, Math.max(1, q)), q};
            case "digit":
                return new long[] {aSlope(), random.nextBoolean() ? upTo(200) : about(0, 10000), about(0, 12)};
            case "kind":
                return new long[] {aRow()};
            case "step":
            case "sum":
                return new long[] {aRow(), aPlace()};
            case "isEven":
                return new long[] {aRow(), aPlace(), random.nextBoolean() ? about(1, 8) : about(1, 40)};
            case "clash":
                return new long[] {aRow(), aPlace(), random.nextBoolean() ? about(1, 8) : about(1, 40), about(0, 2)};
            case "range":
                return new long[] {aRow(), aPlace(), random.nextBoolean() ? about(1, 8) : about(1, 40), about(0, 3)};
            case "parts":
                return new long[] {aRow(), about(1, 12), about(0, 1)};
            case "gaps":
                return new long[] {aPointsRow(), random.nextBoolean() ? upTo(9) : about(1, 60)};
            case "gap":
                return new long[] {aPointsRow(), random.nextBoolean() ? upTo(9) : about(1, 60), about(0, 2),
                    about(0, 2)};
            case "follows":
                int n = random.nextBoolean() ? upTo(9) : about(1, 60);
                return new long[] {aPointsRow(), n, upTo(n)};
            case "share":
                return new long[] {aSlope(), aSlope()};
            case "spread":
                int places = about(1, 40);
                return new long[] {about(0, Math.max(1, places)), places};
            case "turning":
                return new long[] {random.nextLong(), about(1, 40)};
            case "wins":
            case "takes":
                int heap = random.nextBoolean() ? upTo(12) : about(0, 2000);
                return new long[] {heap, random.nextBoolean() ? upTo(12) : about(0, 2000)};
            case "act":
                return new long[] {aRow(), about(0, 3), random.nextBoolean() ? upTo(9) : random.nextInt()};
            case "trace":
                return new long[] {about(0, 10)};
            case "sheet":
                return new long[] {about(0, 3), about(-1, 2), random.nextBoolean() ? about(0, 8) : about(0, 40)};
            case "cell":
                return new long[] {about(0, 3), about(0, 7), random.nextInt(3) > 0 ? upTo(2) : about(-100, 100)};
            default:
                return new long[] {about(0, 6), random.nextBoolean() ? about(-1, 5) : about(-100, 100),
                    random.nextBoolean() ? about(0, 10) : about(-100, 100)};
        }
    }
}
