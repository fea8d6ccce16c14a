import java.lang.management.ManagementFactory;

/** A run of 512 of the dearest calls keeps far below the room that all calls of a run have. */
public final class RoomTest {
    /** 7.3 million fields and elements, were each one byte; a call's share of it leaves room for many objects. */
    private static final long MOST_BYTES = 2_000_000;
    private final Checks checks = new Checks();
    private final com.sun.management.ThreadMXBean threads =
            (com.sun.management.ThreadMXBean) ManagementFactory.getThreadMXBean();

    public static void main(String[] args) {
        RoomTest test = new RoomTest();
        test.run("warm", 0);
        for (int sort = 0; sort < 4; sort++) {
            test.run("sort " + sort, sort);
        }
        test.checks.end();
    }

    private void run(String name, int sort) {
        long before = threads.getCurrentThreadAllocatedBytes();
        EvenSteps x = new EvenSteps();
        x.slope(-1, 1, 2, 5);
        x.points(0);
        for (int i = 0; i < 255; i++) {
            callTwice(x, sort, i);
        }
        long used = threads.getCurrentThreadAllocatedBytes() - before;
        System.out.println(name + ": " + used + " bytes");
        checks.holds(name + " used " + used + " bytes", used < MOST_BYTES);
    }

    private static void callTwice(EvenSteps x, int sort, int i) {
        switch (sort) {
            case 0:
                x.cut(0, 1, 1, 0, 1);
                x.drop(0);
                break;
            case 1:
                x.slope(0, 1, 1, 2);
                x.drop(1);
                break;
            case 2:
                x.gaps(0, 60);
                x.parts(0, 12, 1);
                break;
            default:
                x.clash(0, i, 40, 0);
                x.range(0, i, 40, 0);
                break;
        }
    }
}
