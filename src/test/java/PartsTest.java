/** Promises 27 to 32: tell, knock, as, trace, fault, many. */
public final class PartsTest {
    private static final Check c = new Check();
    private static final String THREE = "t2;h3421;i4421;p9421";

    private static int left(int trace, int... bodies) {
        for (int b : bodies) {
            trace = 31 * trace + b;
        }
        return trace;
    }

    private static void tellAndTrace() {
        c.promise(27);
        BogTown x = Check.town(THREE);
        c.due("a house: its beds", x.tell(0), 3);
        int t = left(0, 1);
        c.promise(30);
        c.due("house", x.trace(), t);
        c.promise(27);
        c.due("an inn: and 100", x.tell(1), 104);
        t = left(t, 2, 1);
        c.promise(30);
        c.due("inn, house", x.trace(), t);
        c.promise(27);
        c.due("a piled one: an inn's and a house's", x.tell(2), 118);
        t = left(t, 3, 2, 1, 1);
        c.promise(30);
        c.due("piled, inn, house, house", x.trace(), t);
        c.promise(27);
        c.due("no such house", x.tell(3), BogTown.UNKNOWN);
        c.due("no such house", x.tell(-1), BogTown.UNKNOWN);
        c.promise(30);
        c.due("nothing left", x.trace(), t);
        for (int k = 0; k < 20; k++) {
            x.tell(2);
            t = left(t, 3, 2, 1, 1);
        }
        c.due("it wraps", x.trace(), t);
    }

    private static void knock() {
        c.promise(28);
        BogTown x = Check.town(THREE);
        c.due("a house: its number", x.knock(0), 0);
        c.due("an inn: its number", x.knock(1), 1);
        c.due("lent bodies", x.trace(), left(0, 4, 4));
        c.due("a piled one: 40", x.knock(2), 40);
        c.due("its own body", x.trace(), left(0, 4, 4, 5));
        c.due("no such house", x.knock(3), BogTown.UNKNOWN);
        c.due("no such house", x.knock(-1), BogTown.UNKNOWN);
        c.due("nothing left", x.trace(), left(0, 4, 4, 5));
    }

    private static void as() {
        c.promise(29);
        BogTown x = Check.town(THREE);
        for (int h = 0; h < 3; h++) {
            for (int kind = 0; kind < 3; kind++) {
                c.due("as " + h + " " + kind, x.as(h, kind), h >= kind ? 1 : -12);
                c.due("fault", x.fault(), h >= kind ? 0 : 2);
            }
        }
        x.as(0, 2);
        c.due("no such house", x.as(3, 3), BogTown.UNKNOWN);
        c.due("refused: no FAULT", x.fault(), 0);
        x.as(0, 2);
        c.due("no such kind", x.as(0, 3), BogTown.OUTSIDE);
        c.due("refused: no FAULT", x.fault(), 0);
        c.due("no such kind", x.as(0, -1), BogTown.OUTSIDE);
        c.due("no such house", x.as(-1, 0), BogTown.UNKNOWN);
        c.due("no body ran", x.trace(), 0);
    }

    /** Calls that name no FAULT leave fault() as it is. */
    private static void fault() {
        c.promise(31);
        BogTown x = Check.town(THREE);
        c.due("none", x.fault(), 0);
        x.as(0, 1);
        x.ofHouse(0, 9);
        x.guest(1, 0, 0);
        x.guest(0, 0, 0);
        x.ofGuest(0, 0);
        x.lodge(0, 0);
        x.lodge(9, 0);
        x.depth(0, 0);
        x.reach(0, 0);
        x.planks(0);
        x.under(0);
        x.open(0, 0);
        x.open(9, 0);
        x.lodgings(1, 0);
        x.feast(0, 1, 0);
        x.way(0, 1, 0);
        x.reading(0, 0, 0);
        x.back(1);
        x.right();
        x.unseen(0);
        x.piles(0);
        x.settles();
        x.after(0, 0);
        x.lose(3);
        x.lose(9);
        x.tell(0);
        x.knock(0);
        x.trace();
        x.many(0);
        x.fault();
        c.due("the latest that names one", x.fault(), 2);
        x.copy(0, 0, 3, 0, 0);
        c.due("NULL", x.fault(), 1);
        x.copy(9, 0, 3, 0, 0);
        c.due("copy refused", x.fault(), 0);
        x.sheet(0, 0, -1);
        c.due("SIZE", x.fault(), 4);
        x.sheet(9, 0, -1);
        c.due("sheet refused", x.fault(), 0);
        x.cell(0, 99, 0);
        c.due("INDEX", x.fault(), 3);
        x.cell(0, 0, 0);
        c.due("cell came to none", x.fault(), 0);
        x.put(0, 99, 0);
        x.town(0, 0, 0, 1);
        c.due("town came to none", x.fault(), 0);
    }

    private static void many() {
        c.promise(32);
        BogTown x = new BogTown();
        for (int what = 0; what < 4; what++) {
            c.due("without a TOWN", x.many(what), 0);
        }
        Check.read(x, THREE);
        c.due("houses", x.many(0), 3);
        c.due("STEP", x.many(1), 2);
        x.guest(1, 0, 0);
        x.reading(0, 0, 0);
        x.reading(0, 0, 0);
        c.due("guests", x.many(2), 1);
        c.due("readings", x.many(3), 2);
        c.due("beyond", x.many(4), BogTown.OUTSIDE);
        c.due("below", x.many(-1), BogTown.OUTSIDE);
    }

    public static void main(String[] args) {
        tellAndTrace();
        knock();
        as();
        fault();
        many();
        c.end();
    }
}
