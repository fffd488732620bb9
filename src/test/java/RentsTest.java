/** Promises 20 and 21: settles, after. */
public final class RentsTest {
    /** A town and two guests (weight, first, last, house) who never come to rest. */
    private static final String NEVER = "t4;p8448;i8976;i2495;p2118";
    private static final int[][] NEVER_GUESTS = {{15, 29, 46, 2}, {12, 23, 38, 0}};
    private static final Check c = new Check();

    private static void settles() {
        c.promise(20);
        BogTown x = new BogTown();
        c.due("no TOWN", x.settles(), BogTown.STATE);
        Check.read(x, "t3;h2909;h1109;h1109");
        c.due("no guests", x.settles(), 0);
        x.guest(10, 0, 9);
        c.due("none is lodged", x.settles(), 0);
        x.lodge(0, 0);
        c.due("he moves once", x.settles(), 1);
        c.due("he is where he was", x.ofGuest(0, 3), 0);
        x.lodge(0, 1);
        c.due("he stays", x.settles(), 0);
        x.lodge(0, 2);
        c.due("of several he stays", x.settles(), 0);
    }

    private static void after() {
        c.promise(21);
        BogTown x = Check.town("t3;h2909;h1109;h1109");
        x.guest(10, 0, 9);
        x.guest(10, 5, 9);
        x.guest(10, 9, 20);
        x.lodge(0, 0);
        c.due("behind none", x.after(0, 0), 0);
        c.due("the least of two alike", x.after(0, 1), 1);
        c.due("and on", x.after(0, 50), 1);
        c.due("not lodged", x.after(1, 50), BogTown.NONE);
        x.lodge(1, 1);
        c.due("no bed in house 1 in night 5", x.after(0, 1), 2);
        c.due("settled", x.settles(), 1);
        x.lodge(2, 2);
        c.due("nor in house 2 in night 9", x.after(0, 1), 0);
        c.due("behind none", x.after(1, 0), 1);
        c.due("behind none", x.after(2, 0), 2);
        c.due("no such guest", x.after(3, 51), BogTown.UNKNOWN);
        c.due("no such guest", x.after(-1, 0), BogTown.UNKNOWN);
        c.due("too many rounds", x.after(0, 51), BogTown.OUTSIDE);
        c.due("below 0", x.after(0, -1), BogTown.OUTSIDE);
    }

    /** In a round each moves with the others as they are then, in their order. */
    private static void oneByOne() {
        BogTown x = Check.town("t3;h2109;h2109;h2109;h2109");
        x.guest(20, 0, 0);
        x.guest(20, 0, 0);
        x.lodge(0, 0);
        x.lodge(1, 0);
        // 0 leaves for 2, where the other's weight does not come; then 1 has house 0 alone and stays.
        c.due("guest 0", x.after(0, 1), 2);
        c.due("guest 1", x.after(1, 1), 0);
        c.due("settled", x.settles(), 1);
    }

    private static void neverSettled() {
        BogTown x = Check.town(NEVER);
        int[][] g = NEVER_GUESTS;
        for (int k = 0; k < g.length; k++) {
            x.guest(g[k][0], g[k][1], g[k][2]);
            c.due("lodged", x.lodge(k, g[k][3]), BogTown.NONE);
        }
        c.promise(20);
        c.due("round and round", x.settles(), BogTown.NONE);
        boolean moves = false;
        for (int k = 0; k < g.length; k++) {
            moves |= x.after(k, 49) != x.after(k, 50);
        }
        c.promise(21);
        c.holds("somebody moves in the last round", moves);
    }

    public static void main(String[] args) {
        settles();
        after();
        oneByOne();
        neverSettled();
        c.end();
    }
}
