/** Promises 15 to 19: reading, back, right, unseen, piles. */
public final class ReadingsTest {
    private static final Check c = new Check();

    private static void readingAndBack() {
        c.promise(15);
        BogTown x = Check.town("t3;h3521;i2413");
        c.due("no such house", x.reading(2, 51, -1), BogTown.UNKNOWN);
        c.due("no such house", x.reading(-1, 0, 0), BogTown.UNKNOWN);
        c.due("no such dawn", x.reading(0, 51, 0), BogTown.OUTSIDE);
        c.due("no such dawn", x.reading(0, -1, 0), BogTown.OUTSIDE);
        c.due("too deep", x.reading(0, 0, 1000000), BogTown.OUTSIDE);
        c.due("too high", x.reading(0, 0, -1), BogTown.OUTSIDE);
        c.due("none yet", x.many(3), 0);
        for (int k = 0; k < 10; k++) {
            c.due("reading " + k, x.reading(k % 2, 5 * k, k == 9 ? 999999 : 0), k);
        }
        c.due("FULL", x.reading(0, 50, 0), BogTown.FULL);
        c.due("OUTSIDE ahead of FULL", x.reading(0, 51, 0), BogTown.OUTSIDE);
        c.promise(16);
        c.due("the last is wrong", x.right(), 0);
        c.due("none back", x.back(0), 10);
        c.due("more than there are", x.back(11), BogTown.OUTSIDE);
        c.due("below 0", x.back(-1), BogTown.OUTSIDE);
        c.due("one back", x.back(1), 9);
        c.due("the last was taken", x.right(), 1);
        c.due("three back", x.back(3), 6);
        c.due("numbered on", x.reading(0, 50, 3), 6);
        c.due("all back", x.back(7), 0);
        c.due("none to take", x.back(1), BogTown.OUTSIDE);
    }

    private static void right() {
        c.promise(17);
        BogTown x = Check.town("t3;h3129;i2413");
        c.due("none are so", x.right(), 1);
        x.guest(10, 0, 1);
        x.reading(0, 2, 20);
        c.due("not so", x.right(), 0);
        x.lodge(0, 0);
        c.due("so as all is", x.right(), 1);
        x.reading(1, 50, 0);
        c.due("so, too", x.right(), 1);
        x.reading(0, 3, 1);
        c.due("one is not", x.right(), 0);
        x.back(1);
        x.lodge(0, 1);
        c.due("not so when he lies elsewhere", x.right(), 0);
    }

    private static void unseen() {
        c.promise(18);
        c.due("OUTSIDE ahead of STATE", new BogTown().unseen(2), BogTown.OUTSIDE);
        c.due("no TOWN", new BogTown().unseen(0), BogTown.STATE);
        BogTown x = Check.town("t3;h1109;h1109;h1109");
        c.due("all pairs", x.unseen(0), 90);
        c.due("the first", x.unseen(1), 1);
        x.reading(1, 1, 2);
        // Beside house 1: weights 8 to 11 in house 0 or 2; in house 1: weight 2.
        c.due("pairs", x.unseen(0), 9);
        c.due("the first", x.unseen(1), 8);
        x.reading(0, 1, 0);
        c.due("not in house 0, nor heavy in 1", x.unseen(0), 5);
        c.due("the first", x.unseen(1), 102);
        x.reading(2, 50, 500);
        c.due("one pair", x.unseen(0), 1);
        c.due("house 2, weight 10", x.unseen(1), 210);
        c.due("without a bed, all as it is", x.depth(2, 50), 0);
        x.reading(0, 0, 1);
        c.due("none", x.unseen(0), 0);
        c.due("none", x.unseen(1), BogTown.NONE);
        c.due("no such what", x.unseen(2), BogTown.OUTSIDE);
        c.due("no such what", x.unseen(-1), BogTown.OUTSIDE);
        // With a guest in the only bed; one more who sleeps there keeps the ground down.
        BogTown y = Check.town("t3;h1119;h1109");
        y.guest(10, 0, 0);
        y.lodge(0, 0);
        y.reading(0, 2, 12);
        c.due("first: a weight of 1 in house 0 in both nights", y.unseen(1), 1);
        c.due("else 24 to 27 beside it: 6 in each night", y.unseen(0), 5);
    }

    private static void piles() {
        c.promise(19);
        c.due("OUTSIDE ahead of STATE", new BogTown().piles(2), BogTown.OUTSIDE);
        c.due("no TOWN", new BogTown().piles(1), BogTown.STATE);
        BogTown x = Check.town("t0;h2109;h2109;h2109");
        c.due("no planks", x.piles(0), 0);
        c.due("one at least, the least", x.piles(1), 1);
        c.due("no such what", x.piles(2), BogTown.OUTSIDE);
        c.due("no such what", x.piles(-1), BogTown.OUTSIDE);
        x.guest(4, 0, 49);
        x.guest(4, 0, 49);
        x.guest(2, 0, 49);
        x.lodge(0, 0);
        x.lodge(1, 1);
        x.lodge(2, 2);
        // 5, 5, 3 a night; with piles under 0 and 1: 2, 2, 2.
        c.due("as it is", x.planks(-1), 50);
        c.due("under 0 and 1", x.piles(0), 0);
        c.due("the set", x.piles(1), 3);
        c.due("only asked", x.ofHouse(0, 0), 0);
        c.due("as it was", x.planks(-1), 50);
        // A piled one stays as it is; a house comes up under guests as an inn does.
        BogTown y = Check.town("t0;h1219;p1219");
        y.guest(5, 0, 49);
        y.lodge(0, 0);
        c.due("10 less none", y.depth(0, 1), 10);
        c.due("5 less 5, 1 less 10", y.piles(0), 0);
        c.due("the set", y.piles(1), 1);
        BogTown z = Check.town("t0;p1209;p1209");
        z.guest(5, 0, 49);
        z.lodge(0, 0);
        c.due("piled is piled", z.piles(0), 50);
        c.due("the least of all alike", z.piles(1), 1);
        // Two at the most: with three it would be even.
        BogTown t = Check.town("t0;h1109;h1109;h1109;p1109");
        for (int g = 0; g < 4; g++) {
            t.guest(1, 0, 49);
            t.lodge(g, g);
        }
        c.due("one plank at each dawn", t.piles(0), 50);
    }

    public static void main(String[] args) {
        readingAndBack();
        right();
        unseen();
        piles();
        c.end();
    }
}
