/** Promises 12 to 14: lodgings, feast, way. */
public final class PlansTest {
    private static final Check c = new Check();

    private static void lodgings() {
        c.promise(12);
        // Wherever he lies, both sides of house 1 come to stand unlike at once.
        BogTown x = Check.town("t0;h1909;i1129;h1909");
        c.due("no guests", x.lodgings(1, -1), BogTown.OUTSIDE);
        x.guest(10, 0, 49);
        c.due("two planks at each dawn", x.lodgings(1, -1), 100);
        c.due("the first of several", x.lodgings(1, 0), 0);
        x.guest(10, 0, 0);
        c.due("k above them", x.lodgings(3, -1), BogTown.OUTSIDE);
        c.due("k below 1", x.lodgings(0, -1), BogTown.OUTSIDE);
        x.guest(10, 0, 0);
        c.due("k beyond 4", x.lodgings(5, 9), BogTown.OUTSIDE);
        x.guest(10, 0, 0);
        x.guest(10, 0, 0);
        c.due("k beyond 4 of five", x.lodgings(5, -1), BogTown.OUTSIDE);
        c.due("q is not there", x.lodgings(2, 2), BogTown.UNKNOWN);
        c.due("q below -1", x.lodgings(2, -2), BogTown.UNKNOWN);
        c.due("nobody was moved", x.ofGuest(0, 3), BogTown.NONE);
        // Two houses alike with one bed each: one guest in each lies even.
        BogTown y = Check.town("t0;h1109;h1109");
        y.guest(10, 0, 49);
        y.guest(10, 0, 49);
        c.due("alone", y.lodgings(1, -1), 50);
        c.due("alone, the first", y.lodgings(1, 0), 0);
        c.due("together even", y.lodgings(2, -1), 0);
        c.due("as a row", y.lodgings(2, 0), 0);
        c.due("as a row", y.lodgings(2, 1), 1);
        y.guest(10, 49, 49);
        c.due("no bed for a third", y.lodgings(3, -1), BogTown.NONE);
        c.due("no house", y.lodgings(3, 0), BogTown.NONE);
        y.lodge(1, 0);
        c.due("others as they are", y.lodgings(1, 0), 1);
        c.due("even", y.lodgings(1, -1), 0);
        y.lodge(1, 1);
        c.due("and when they move", y.lodgings(1, 0), 0);
        y.lodge(0, 0);
        c.due("where he lies is free for him", y.lodgings(1, 0), 0);
        c.due("he is there still", y.ofGuest(0, 3), 0);
        // Beds are counted by night: the third comes when the first is gone.
        BogTown z = Check.town("t9;h1109;h1109");
        z.guest(1, 0, 9);
        z.guest(1, 0, 49);
        z.guest(1, 10, 49);
        c.due("one behind the other", z.lodgings(3, -1), 0);
        c.due("0 with", z.lodgings(3, 0), 0);
        c.due("2, for", z.lodgings(3, 2), 0);
        c.due("1 has the other", z.lodgings(3, 1), 1);
        z.guest(1, 9, 9);
        c.due("night 9 is full", z.lodgings(4, 3), BogTown.NONE);
    }

    private static void feast() {
        c.promise(13);
        BogTown x = Check.town("t3;h1111;i1194;p1192");
        c.due("10 a night: 40, then UNDER", x.feast(0, 10, 0), 4);
        c.due("from a night on", x.feast(0, 10, 40), 4);
        c.due("to night 49", x.feast(0, 10, 47), 3);
        c.due("night 49 is one of them", x.feast(0, 50, 49), 0);
        c.due("night 49 is the last", x.feast(0, 49, 49), 1);
        c.due("the lightest", x.feast(0, 1, 0), 49);
        c.due("at once", x.feast(0, 50, 0), 0);
        c.due("49 is not UNDER", x.feast(0, 49, 0), 1);
        c.due("an inn comes up by 45", x.feast(1, 45, 0), 50);
        c.due("55 a night of 200", x.feast(1, 100, 0), 3);
        c.due("piled: 150 less 45, 105", x.feast(2, 300, 0), 0);
        c.due("piled: 75 less 45: 90, then 120", x.feast(2, 150, 0), 3);
        c.due("nothing has sunk", x.depth(0, 50), 0);
        x.guest(10, 0, 2);
        x.lodge(0, 0);
        c.due("it needs no bed; with a guest", x.feast(0, 10, 0), 2);
        c.due("behind one: 20, then up to 0", x.feast(0, 10, 6), 4);
        c.due("at 30 still", x.feast(0, 10, 3), 1);
        c.due("no such house", x.feast(3, 0, 50), BogTown.UNKNOWN);
        c.due("no such house", x.feast(-1, 1, 0), BogTown.UNKNOWN);
        c.due("no weight", x.feast(0, 0, 0), BogTown.OUTSIDE);
        c.due("too heavy", x.feast(0, 301, 0), BogTown.OUTSIDE);
        c.due("no such night", x.feast(0, 1, 50), BogTown.OUTSIDE);
        c.due("no such night", x.feast(0, 1, -1), BogTown.OUTSIDE);
    }

    /** One STEP a dawn, made at that dawn; waiting goes on to the next one. */
    private static void way() {
        c.promise(14);
        BogTown x = Check.town("t1;h1409;h1449;h1409");
        c.due("there already", x.way(1, 1, 7), 7);
        c.due("there already", x.way(2, 2, 50), 50);
        c.due("there already", x.way(0, 0, 0), 0);
        c.due("one STEP", x.way(0, 1, 0), 0);
        c.due("one STEP", x.way(2, 1, 7), 7);
        c.due("one STEP at the last dawn", x.way(1, 0, 50), 50);
        c.due("one STEP a dawn", x.way(0, 2, 0), 1);
        c.due("and back", x.way(2, 0, 49), 50);
        c.due("no dawn more", x.way(2, 0, 50), BogTown.NONE);
        // House 1 is at 120 at dawn 1, 80 at 2, 40 at 3, 0 at 4; its sides at 30.
        x.guest(30, 0, 0);
        x.lodge(0, 1);
        c.due("dawn 1", x.depth(1, 1), 120);
        c.due("its sides", x.depth(2, 50), 30);
        c.due("out at dawn 0", x.way(1, 2, 0), 0);
        c.due("waiting till 40 and 30 at dawn 3", x.way(1, 2, 1), 3);
        c.due("in at dawn 0, out at dawn 3", x.way(0, 2, 0), 3);
        c.due("in at dawn 3, and no more out", x.way(0, 2, 1), BogTown.NONE);
        c.due("in at dawn 3", x.way(0, 1, 1), 3);
        c.due("in at its own dawn", x.way(0, 1, 3), 3);
        c.due("never behind that", x.way(0, 1, 4), BogTown.NONE);
        c.due("no such house", x.way(0, 3, 51), BogTown.UNKNOWN);
        c.due("no such house", x.way(-1, 0, 0), BogTown.UNKNOWN);
        c.due("no such house", x.way(3, 0, 0), BogTown.UNKNOWN);
        c.due("no such house", x.way(0, -1, 0), BogTown.UNKNOWN);
        c.due("no such dawn", x.way(0, 1, 51), BogTown.OUTSIDE);
        c.due("no such dawn", x.way(0, 0, -1), BogTown.OUTSIDE);
    }

    /** Nobody sleeps there: as many dawns as there are STEPS, and the first is made at once. */
    private static void wayThroughSeven() {
        c.promise(14);
        BogTown x = Check.town("t0;h1111;h1111;h1111;h1111;h1111;h1111;h1111");
        for (int from = 0; from < 7; from++) {
            for (int to = 0; to < 7; to++) {
                int steps = Math.abs(from - to);
                int later = Math.max(steps - 1, 0);
                c.due("way " + from + " " + to, x.way(from, to, 3), 3 + later);
                c.due("just in time " + from + " " + to, x.way(from, to, 50 - later), 50);
                if (steps > 1) {
                    c.due("too late " + from + " " + to, x.way(from, to, 51 - later), BogTown.NONE);
                }
            }
        }
    }

    public static void main(String[] args) {
        lodgings();
        feast();
        way();
        wayThroughSeven();
        c.end();
    }
}
