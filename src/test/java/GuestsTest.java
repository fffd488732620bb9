/** Promises 4 to 11: guest, ofGuest, lodge, depth, reach, planks, under, open. */
public final class GuestsTest {
    private static final Check c = new Check();

    private static void guest() {
        c.promise(4);
        BogTown x = new BogTown();
        c.due("OUTSIDE ahead of STATE", x.guest(0, 0, 0), BogTown.OUTSIDE);
        c.due("no TOWN", x.guest(1, 0, 0), BogTown.STATE);
        Check.read(x, "t3;h3521;i2413");
        c.due("too heavy", x.guest(31, 0, 0), BogTown.OUTSIDE);
        c.due("too light", x.guest(0, 0, 0), BogTown.OUTSIDE);
        c.due("FIRST below 0", x.guest(1, -1, 0), BogTown.OUTSIDE);
        c.due("LAST beyond", x.guest(1, 0, 50), BogTown.OUTSIDE);
        c.due("FIRST beyond", x.guest(1, 50, 50), BogTown.OUTSIDE);
        c.due("LAST below FIRST", x.guest(1, 5, 4), BogTown.OUTSIDE);
        c.due("none came", x.many(2), 0);
        for (int g = 0; g < 8; g++) {
            c.due("guest " + g, x.guest(g == 0 ? 30 : 1, g, g == 1 ? 1 : 49), g);
        }
        c.due("FULL", x.guest(1, 0, 0), BogTown.FULL);
        c.due("OUTSIDE ahead of FULL", x.guest(1, 0, 50), BogTown.OUTSIDE);
        c.due("eight", x.many(2), 8);
    }

    private static void ofGuest() {
        c.promise(5);
        BogTown x = Check.town("t3;h3521;i2413");
        x.guest(17, 3, 9);
        x.guest(30, 0, 49);
        x.lodge(1, 1);
        int[][] told = {{17, 3, 9, -9}, {30, 0, 49, 1}};
        for (int g = 0; g < 2; g++) {
            for (int what = 0; what < 4; what++) {
                c.due("ofGuest " + g + " " + what, x.ofGuest(g, what), told[g][what]);
            }
            c.due("beyond", x.ofGuest(g, 4), BogTown.OUTSIDE);
            c.due("below", x.ofGuest(g, -1), BogTown.OUTSIDE);
        }
        c.due("no such guest", x.ofGuest(2, 4), BogTown.UNKNOWN);
        c.due("no such guest", x.ofGuest(-1, 0), BogTown.UNKNOWN);
    }

    private static void lodge() {
        c.promise(6);
        BogTown x = Check.town("t3;h1521;i2413");
        x.guest(10, 0, 9);
        x.guest(10, 9, 20);
        x.guest(10, 10, 30);
        x.guest(10, 0, 49);
        c.due("the first bed", x.lodge(0, 0), BogTown.NONE);
        c.due("taken in night 9", x.lodge(1, 0), BogTown.STATE);
        c.due("not lodged", x.ofGuest(1, 3), BogTown.NONE);
        c.due("free from night 10 on", x.lodge(2, 0), BogTown.NONE);
        c.due("taken in all", x.lodge(3, 0), BogTown.STATE);
        c.due("his own bed is his", x.lodge(0, 0), 0);
        c.due("two beds: one", x.lodge(3, 1), BogTown.NONE);
        c.due("two beds: two", x.lodge(1, 1), BogTown.NONE);
        c.due("two beds: no third", x.lodge(2, 1), BogTown.STATE);
        c.due("he stays where he was", x.ofGuest(2, 3), 0);
        c.due("full in his last night alone", x.lodge(0, 1), BogTown.STATE);
        c.due("out of it", x.lodge(1, BogTown.NONE), 1);
        c.due("not lodged: NONE", x.lodge(1, BogTown.NONE), BogTown.NONE);
        c.due("house 0 is taken by two in turn", x.lodge(1, 0), BogTown.STATE);
        c.due("in place of where he was", x.lodge(2, 1), 0);
        c.due("full in his first night alone", x.lodge(1, 0), BogTown.STATE);
        c.due("before guest 2 comes", x.lodge(0, 1), 0);
        c.due("now house 0 is free", x.lodge(1, 0), BogTown.NONE);
        BogTown y = Check.town("t3;h1521;i2413");
        y.guest(1, 5, 5);
        y.guest(1, 0, 9);
        y.lodge(1, 0);
        c.due("within another's nights", y.lodge(0, 0), BogTown.STATE);
        y.lodge(1, BogTown.NONE);
        y.lodge(0, 0);
        c.due("around another's night", y.lodge(1, 0), BogTown.STATE);
        c.due("no such guest", x.lodge(4, 0), BogTown.UNKNOWN);
        c.due("no such guest", x.lodge(-1, BogTown.NONE), BogTown.UNKNOWN);
        c.due("no such house", x.lodge(0, 2), BogTown.UNKNOWN);
        c.due("no such house", x.lodge(0, -1), BogTown.UNKNOWN);
        c.due("he is where he was", x.ofGuest(0, 3), 1);
    }

    private static void depth() {
        c.promise(7);
        // Pressed 30 (15 as a piled one): a fourth of it is cut for each neighbour alone.
        BogTown x = Check.town("t3;h2119;h2109;h2109;p2119;i2119");
        x.guest(30, 0, 1);
        x.guest(30, 0, 0);
        x.lodge(0, 1);
        c.due("dawn 0", x.depth(1, 0), 0);
        c.due("beside it, 7 less 10", x.depth(0, 1), 0);
        c.due("pressed", x.depth(1, 1), 30);
        c.due("beside it", x.depth(2, 1), 7);
        c.due("two on", x.depth(3, 1), 0);
        c.due("two nights", x.depth(1, 2), 60);
        c.due("nothing comes up", x.depth(1, 50), 60);
        x.lodge(1, 3);
        c.due("between the two: 7 and 3", x.depth(2, 1), 10);
        c.due("the half, less 5", x.depth(3, 1), 10);
        c.due("then it comes up whole", x.depth(3, 2), 0);
        x.lodge(1, 4);
        c.due("an inn comes up by half", x.depth(4, 1), 25);
        c.due("empty by 10", x.depth(4, 2), 15);
        c.due("not below 0", x.depth(4, 4), 0);
        c.due("by both at once", x.depth(3, 1), 0);
        x.lodge(1, 0);
        c.due("a house does not come up under guests", x.depth(0, 1), 37);
        c.due("then by 10, and a fourth on it", x.depth(0, 2), 34);
        c.due("two in one", x.lodge(1, 1), 0);
        c.due("weights are summed up", x.depth(1, 1), 60);
        c.due("a fourth of the sum", x.depth(2, 1), 15);
        x.lodge(0, BogTown.NONE);
        x.lodge(1, BogTown.NONE);
        c.due("nobody is there any more", x.depth(1, 50), 0);
        x.guest(8, 5, 5);
        x.lodge(2, 1);
        c.due("ahead of his first night", x.depth(1, 5), 0);
        c.due("behind it", x.depth(1, 6), 8);
        c.due("no such house", x.depth(5, 51), BogTown.UNKNOWN);
        c.due("no such house", x.depth(-1, 0), BogTown.UNKNOWN);
        c.due("beyond dawn 50", x.depth(0, 51), BogTown.OUTSIDE);
        c.due("below dawn 0", x.depth(0, -1), BogTown.OUTSIDE);
        // A piled one that presses by half of 1, which is none, is slept in all the same.
        BogTown y = Check.town("t0;p1141;h1111");
        y.guest(1, 1, 49);
        y.guest(30, 0, 0);
        y.lodge(1, 0);
        c.due("15 less 20", y.depth(0, 1), 0);
        y.lodge(1, 1);
        c.due("a fourth, less 40", y.depth(0, 1), 0);
        BogTown z = Check.town("t0;p2111;h1111");
        z.guest(30, 0, 0);
        z.guest(1, 1, 49);
        z.lodge(0, 0);
        z.lodge(1, 0);
        c.due("15 less 5", z.depth(0, 1), 10);
        c.due("0 less 5", z.depth(0, 2), 5);
    }

    private static void reachAndPlanks() {
        c.promise(8);
        // One guest in the middle of five: 10, 40, 10 and 0 at the ends.
        BogTown x = Check.town("t1;h1409;h1409;h1409;h1409;h1409");
        x.guest(10, 0, 0);
        x.lodge(0, 2);
        c.due("all at dawn 0", x.reach(3, 0), 31);
        c.due("10 apart is no more than 10", x.reach(0, 1), 3);
        c.due("itself", x.reach(2, 1), 4);
        c.due("to the left", x.reach(1, 1), 3);
        c.due("to the right", x.reach(4, 1), 24);
        c.due("no such house", x.reach(5, 51), BogTown.UNKNOWN);
        c.due("no such house", x.reach(-1, 0), BogTown.UNKNOWN);
        c.due("no such dawn", x.reach(0, 51), BogTown.OUTSIDE);
        c.due("no such dawn", x.reach(0, -1), BogTown.OUTSIDE);
        c.promise(9);
        c.due("none at dawn 0", x.planks(0), 0);
        c.due("two at dawn 1", x.planks(1), 2);
        c.due("two at dawn 50", x.planks(50), 2);
        c.due("in all", x.planks(-1), 100);
        c.due("beyond", x.planks(51), BogTown.OUTSIDE);
        c.due("below", x.planks(-2), BogTown.OUTSIDE);
        c.due("OUTSIDE ahead of STATE", new BogTown().planks(51), BogTown.OUTSIDE);
        c.due("no TOWN", new BogTown().planks(-1), BogTown.STATE);
        BogTown y = Check.town("t0;h1109;h1109");
        c.due("STEP 0, no guests", y.planks(-1), 0);
        y.guest(1, 49, 49);
        y.lodge(0, 1);
        c.due("the last dawn counts", y.planks(-1), 1);
        BogTown z = Check.town("t1;h1109;h1109");
        z.guest(13, 49, 49);
        z.guest(14, 49, 49);
        z.lodge(0, 0);
        c.due("13 and 3", z.planks(50), 0);
        z.lodge(0, BogTown.NONE);
        z.lodge(1, 0);
        c.due("14 and 3 are more than 10 apart", z.planks(50), 1);
    }

    private static void under() {
        c.promise(10);
        BogTown x = Check.town("t3;h2109;h2101;h2101");
        c.due("no guests", x.under(0), BogTown.NONE);
        c.due("no guests", x.under(1), BogTown.NONE);
        x.guest(7, 0, 49);
        x.guest(7, 0, 49);
        x.lodge(0, 2);
        c.due("7 a night: 49, then 56", x.under(0), 8);
        c.due("the house", x.under(1), 2);
        x.lodge(1, 1);
        c.due("8 a night: 48, then 56", x.under(0), 7);
        c.due("the least of two", x.under(1), 1);
        x.lodge(1, BogTown.NONE);
        x.lodge(0, BogTown.NONE);
        x.guest(10, 0, 4);
        x.lodge(2, 2);
        c.due("just 50 is UNDER", x.under(0), 5);
        x.lodge(2, BogTown.NONE);
        x.guest(30, 35, 49);
        x.lodge(3, 0);
        c.due("30 a night of 450, 7 beside it of 50", x.under(0), 43);
        c.due("house 1", x.under(1), 1);
        BogTown y = Check.town("t3;h2101;h2109");
        y.guest(30, 48, 49);
        y.lodge(0, 0);
        c.due("at dawn 50", y.under(0), 50);
        c.due("house 0", y.under(1), 0);
        c.due("no such what", x.under(2), BogTown.OUTSIDE);
        c.due("no such what", x.under(-1), BogTown.OUTSIDE);
        c.due("OUTSIDE ahead of STATE", new BogTown().under(2), BogTown.OUTSIDE);
        c.due("no TOWN", new BogTown().under(0), BogTown.STATE);
    }

    private static void open() {
        c.promise(11);
        BogTown x = Check.town("t1;h1409;h1409;h1409");
        c.due("always", x.open(0, 0), 1);
        c.due("always", x.open(0, 1), 1);
        x.guest(10, 10, 10);
        x.lodge(0, 2);
        c.due("dawns 1 to 10", x.open(1, 0), 1);
        c.due("of 50", x.open(1, 1), 5);
        c.due("the other two", x.open(0, 0), 1);
        x.guest(10, 0, 0);
        x.lodge(0, BogTown.NONE);
        x.lodge(1, 2);
        c.due("never: 0", x.open(1, 0), 0);
        c.due("never: of 1", x.open(1, 1), 1);
        x.guest(10, 7, 7);
        x.lodge(1, BogTown.NONE);
        x.lodge(2, 2);
        c.due("7 of 50", x.open(1, 0), 7);
        c.due("7 of 50", x.open(1, 1), 50);
        x.guest(10, 2, 49);
        x.lodge(2, BogTown.NONE);
        x.lodge(3, 2);
        c.due("2 of 50", x.open(1, 0), 1);
        c.due("are 1 of 25", x.open(1, 1), 25);
        c.due("the last one", x.open(2, 0), BogTown.LOST);
        c.due("no such house", x.open(3, 0), BogTown.LOST);
        c.due("no such house", x.open(-1, 0), BogTown.LOST);
        c.due("no such house", x.open(Integer.MAX_VALUE, 0), BogTown.LOST);
        c.due("no such number", x.open(0, 2), BogTown.LOST);
        c.due("no such number", x.open(0, -1), BogTown.LOST);
    }

    public static void main(String[] args) {
        guest();
        ofGuest();
        lodge();
        depth();
        reachAndPlanks();
        under();
        open();
        c.end();
    }
}
