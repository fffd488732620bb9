import java.lang.management.ManagementFactory;

/**
 * What the dearest calls make: all of a run lives in one room, so the calls make nothing at all and
 * an object is small; and 512 of the dearest end soon.
 */
public final class RoomTest {
    private static final String SEVEN = "t1;h9909;i9919;p9929;h9909;i9939;p9949;h9909";
    private static final Check c = new Check();
    private static long sum = 0;

    private static long made() {
        return ((com.sun.management.ThreadMXBean) ManagementFactory.getThreadMXBean())
            .getThreadAllocatedBytes(Thread.currentThread().getId());
    }

    /** A town, all its guests, and dear calls, something changed ahead of each. */
    private static void ask(BogTown x) {
        for (int g = 0; g < 8; g++) {
            x.guest(30 - g, g, 49 - g);
            x.lodge(g, g % 7);
        }
        for (int k = 0; k < 60; k++) {
            x.lodge(7, k % 7);
            sum += x.lodgings(4, k % 5 - 1) + x.settles() + x.after(k % 8, 50) + x.unseen(0);
            sum += x.piles(1) + x.feast(k % 7, 300, 0) + x.way(0, 6, 0) + x.under(0) + x.planks(-1);
            sum += x.reading(0, 50, 0) + x.right() + x.tell(2) + x.open(0, 0) + x.sheet(1, k % 3, 60);
            sum += x.put(1, 1, k) + x.copy(1, 0, 1, 1, 59) + x.cell(1, 2, k % 3);
        }
    }

    public static void main(String[] args) {
        ask(Check.town(SEVEN));
        BogTown x = Check.town(SEVEN);
        long before = made();
        ask(x);
        long calls = made() - before;
        before = made();
        BogTown y = new BogTown();
        long object = made() - before;
        sum += y.many(0);
        System.out.println("an object: " + object + " bytes; its calls: " + calls + " (" + sum + ")");
        c.holds("the calls make next to nothing", calls < 4096);
        c.holds("an object is small", object < 16384);
        c.end();
    }
}
