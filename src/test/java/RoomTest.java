import java.lang.management.ManagementFactory;

/** All calls of one run live in one room: an object is small, and no call makes anything. */
public final class RoomTest {
    public static void main(String[] args) {
        var threads = (com.sun.management.ThreadMXBean) ManagementFactory.getThreadMXBean();
        busy(new GooseIce());
        long start = threads.getCurrentThreadAllocatedBytes();
        GooseIce x = new GooseIce();
        long made = threads.getCurrentThreadAllocatedBytes();
        // The bytes of an object bound its elements: most are ints and longs of 4 and 8 bytes.
        Check.due("bytes of an object above 60,000", made - start > 60000, false);
        long sum = 0;
        for (int k = 0; k < 20; k++) {
            sum += busy(x);
        }
        long later = threads.getCurrentThreadAllocatedBytes();
        Check.due("bytes that " + sum + " dear calls made above 10,000", later - made > 10000, false);
        Check.end();
    }

    private static final String LAKE = "shore s;ice a bears 19;ice b bears 19;shore t;way s a;way a b;way b t;"
        + "walker v weighs 5 at s;walker w weighs 4 at s;walker u weighs 1 at s;walker y weighs 1 at s;";
    private static final String TALES = "loop 99;any;step 20;frost 1;end;";

    /** The calls that have the most to do; the texts are fed by numbers alone. */
    private static int busy(GooseIce x) {
        Check.lake(x, LAKE);
        Check.tales(x, TALES);
        x.tray(0, 2, 3);
        x.write(0, 0, 1);
        x.write(0, 1, 2);
        x.write(0, 2, 3);
        x.queue(15, 0, 3);
        x.suspects(2);
        x.groups(15, 6);
        x.half(15);
        x.surest(0, 3);
        x.cut(0, 3);
        x.reach(0);
        x.odds(1, 5, 10, 3, 3);
        x.bestDay(1, 5, 10, 3, 3);
        x.mark();
        x.holds();
        x.mean(0, 20);
        x.live(1);
        x.undo();
        return 15;
    }
}
