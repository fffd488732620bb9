/**
 * REFUSALS and FAULTS of each call: of several the first in the order told, and each changes nothing
 * but fault(), of a call that names FAULTS. Ahead of each row fault() is 2, of a call long past.
 */
public final class RefusalsTest {
    private static final int UNKNOWN = BogTown.UNKNOWN, OUTSIDE = BogTown.OUTSIDE, STATE = BogTown.STATE,
        FULL = BogTown.FULL, NONE = BogTown.NONE;
    private static final long LOST = BogTown.LOST;
    private static final int NULL = 1, CAST = 2, INDEX = 3, SIZE = 4;
    private static final int MIN = Integer.MIN_VALUE, MAX = Integer.MAX_VALUE;
    private static final Check c = new Check();

    private interface Call {
        long on(BogTown x);
    }

    private enum Kept { NO_TOWN, TOWN, FULL_TOWN }

    private static Kept kept = Kept.TOWN;

    /** SHEETS: 20 bytes, 3 shorts, an empty row of ints, nothing. */
    private static BogTown made() {
        BogTown x = new BogTown();
        Check.write(x, 0, 0, "t2;h1421;i2521;p3619");
        x.sheet(1, 1, 3);
        x.put(1, 2, 77);
        x.sheet(2, 2, 0);
        if (kept == Kept.NO_TOWN) {
            x.cell(0, 0, 1);
            return x;
        }
        x.town(0, 0, 0, 20);
        x.guest(10, 0, 9);
        x.guest(20, 5, 49);
        x.lodge(0, 0);
        x.lodge(1, 1);
        x.reading(0, 1, 40);
        x.reading(1, 50, 7);
        x.tell(1);
        for (int k = 2; k < 8 && kept == Kept.FULL_TOWN; k++) {
            x.guest(30 - k, k, 40 + k);
        }
        for (int k = 2; k < 10 && kept == Kept.FULL_TOWN; k++) {
            x.reading(k % 3, k, k);
        }
        x.as(0, 2);
        return x;
    }

    private static void row(String call, Call made, long want, int fault) {
        BogTown x = made();
        c.due(kept + ", fault ahead of " + call, x.fault(), CAST);
        c.due(kept + ", " + call, made.on(x), want);
        c.due(kept + ", fault behind " + call, x.fault(), fault);
        c.holds(kept + ", nothing changed by " + call, Picture.of(x).equals(Picture.of(made())));
    }

    /** A call that names no FAULTS: fault() stays, too. */
    private static void refused(String call, Call made, long want) {
        row(call, made, want, CAST);
    }

    /** A call that names FAULTS, refused, or a TEXT not taken: it came to none. */
    private static void cleared(String call, Call made, long want) {
        row(call, made, want, 0);
    }

    private static void faulty(String call, Call made, int fault) {
        row(call, made, -10 - fault, fault);
    }

    private static void lost(String call, Call made, int fault) {
        row(call, made, LOST, fault);
    }

    private static void town() {
        c.promise(2);
        cleared("town(4, 3, -1, -1)", x -> x.town(4, 3, -1, -1), UNKNOWN);
        cleared("town(-1, 3, -1, -1)", x -> x.town(-1, 3, -1, -1), UNKNOWN);
        cleared("town(0, 3, -1, -1)", x -> x.town(0, 3, -1, -1), OUTSIDE);
        cleared("town(0, -1, -1, -1)", x -> x.town(0, -1, -1, -1), OUTSIDE);
        cleared("town(3, 3, -1, -1)", x -> x.town(3, 3, -1, -1), OUTSIDE);
        faulty("town(0, 1, -1, -1)", x -> x.town(0, 1, -1, -1), CAST);
        faulty("town(2, 0, 9, -1)", x -> x.town(2, 0, 9, -1), CAST);
        faulty("town(3, 0, -1, -1)", x -> x.town(3, 0, -1, -1), NULL);
        faulty("town(3, 2, 0, 0)", x -> x.town(3, 2, 0, 0), NULL);
        faulty("town(0, 0, -1, -1)", x -> x.town(0, 0, -1, -1), SIZE);
        faulty("town(0, 0, 21, MIN)", x -> x.town(0, 0, 21, MIN), SIZE);
        faulty("town(0, 0, -1, 0)", x -> x.town(0, 0, -1, 0), INDEX);
        faulty("town(0, 0, 21, 0)", x -> x.town(0, 0, 21, 0), INDEX);
        faulty("town(0, 0, 1, 20)", x -> x.town(0, 0, 1, 20), INDEX);
        faulty("town(0, 0, 0, 21)", x -> x.town(0, 0, 0, 21), INDEX);
        faulty("town(0, 0, MAX, MAX)", x -> x.town(0, 0, MAX, MAX), INDEX);
        faulty("town(0, 0, MIN, MAX)", x -> x.town(0, 0, MIN, MAX), INDEX);
        faulty("town(2, 2, 1, 0)", x -> x.town(2, 2, 1, 0), INDEX);
        cleared("town(0, 0, 20, 0)", x -> x.town(0, 0, 20, 0), -100);
        cleared("town(2, 2, 0, 0)", x -> x.town(2, 2, 0, 0), -100);
        cleared("town(1, 1, 0, 3)", x -> x.town(1, 1, 0, 3), -100);
        cleared("town(0, 0, 0, 13)", x -> x.town(0, 0, 0, 13), -113);
        cleared("town(0, 0, 0, 19)", x -> x.town(0, 0, 0, 19), -119);
    }

    private static void guests() {
        c.promise(3);
        refused("ofHouse(3, 5)", x -> x.ofHouse(3, 5), UNKNOWN);
        refused("ofHouse(-1, -1)", x -> x.ofHouse(-1, -1), UNKNOWN);
        c.promise(4);
        refused("guest(0, 0, 0)", x -> x.guest(0, 0, 0), OUTSIDE);
        refused("guest(31, 0, 0)", x -> x.guest(31, 0, 0), OUTSIDE);
        refused("guest(1, -1, 0)", x -> x.guest(1, -1, 0), OUTSIDE);
        refused("guest(1, 50, 50)", x -> x.guest(1, 50, 50), OUTSIDE);
        refused("guest(1, 0, 50)", x -> x.guest(1, 0, 50), OUTSIDE);
        refused("guest(1, 5, 4)", x -> x.guest(1, 5, 4), OUTSIDE);
        refused("guest(1, -2, -1)", x -> x.guest(1, -2, -1), OUTSIDE);
        c.promise(5);
        refused("ofGuest(8, 4)", x -> x.ofGuest(8, 4), UNKNOWN);
        refused("ofGuest(-1, 0)", x -> x.ofGuest(-1, 0), UNKNOWN);
        c.promise(6);
        refused("lodge(8, 0)", x -> x.lodge(8, 0), UNKNOWN);
        refused("lodge(-1, NONE)", x -> x.lodge(-1, NONE), UNKNOWN);
        refused("lodge(0, 3)", x -> x.lodge(0, 3), UNKNOWN);
        refused("lodge(0, -1)", x -> x.lodge(0, -1), UNKNOWN);
        refused("lodge(0, -8)", x -> x.lodge(0, -8), UNKNOWN);
        refused("lodge(0, -10)", x -> x.lodge(0, -10), UNKNOWN);
        c.promise(7);
        refused("depth(3, 51)", x -> x.depth(3, 51), UNKNOWN);
        refused("depth(-1, -1)", x -> x.depth(-1, -1), UNKNOWN);
        c.promise(8);
        refused("reach(3, 51)", x -> x.reach(3, 51), UNKNOWN);
        refused("reach(-1, -1)", x -> x.reach(-1, -1), UNKNOWN);
        c.promise(9);
        refused("planks(-2)", x -> x.planks(-2), OUTSIDE);
        refused("planks(51)", x -> x.planks(51), OUTSIDE);
        c.promise(10);
        refused("under(-1)", x -> x.under(-1), OUTSIDE);
        refused("under(2)", x -> x.under(2), OUTSIDE);
        c.promise(11);
        refused("open(2, 0)", x -> x.open(2, 0), LOST);
        refused("open(3, 2)", x -> x.open(3, 2), LOST);
        refused("open(-1, 0)", x -> x.open(-1, 0), LOST);
        refused("open(0, 2)", x -> x.open(0, 2), LOST);
        refused("open(0, -1)", x -> x.open(0, -1), LOST);
    }

    private static void plansAndReadings() {
        c.promise(12);
        refused("lodgings(0, 9)", x -> x.lodgings(0, 9), OUTSIDE);
        refused("lodgings(-1, -1)", x -> x.lodgings(-1, -1), OUTSIDE);
        refused("lodgings(5, 9)", x -> x.lodgings(5, 9), OUTSIDE);
        refused("lodgings(5, -1)", x -> x.lodgings(5, -1), OUTSIDE);
        c.promise(13);
        refused("feast(3, 0, 50)", x -> x.feast(3, 0, 50), UNKNOWN);
        refused("feast(-1, 1, 0)", x -> x.feast(-1, 1, 0), UNKNOWN);
        c.promise(14);
        refused("way(3, 0, 51)", x -> x.way(3, 0, 51), UNKNOWN);
        refused("way(0, 3, -1)", x -> x.way(0, 3, -1), UNKNOWN);
        refused("way(-1, 0, 0)", x -> x.way(-1, 0, 0), UNKNOWN);
        refused("way(0, -1, 0)", x -> x.way(0, -1, 0), UNKNOWN);
        c.promise(15);
        refused("reading(3, 51, -1)", x -> x.reading(3, 51, -1), UNKNOWN);
        refused("reading(-1, 0, 0)", x -> x.reading(-1, 0, 0), UNKNOWN);
        c.promise(16);
        refused("back(-1)", x -> x.back(-1), OUTSIDE);
        refused("back(11)", x -> x.back(11), OUTSIDE);
        c.promise(18);
        refused("unseen(-1)", x -> x.unseen(-1), OUTSIDE);
        refused("unseen(2)", x -> x.unseen(2), OUTSIDE);
        c.promise(19);
        refused("piles(-1)", x -> x.piles(-1), OUTSIDE);
        refused("piles(2)", x -> x.piles(2), OUTSIDE);
        c.promise(21);
        refused("after(8, 51)", x -> x.after(8, 51), UNKNOWN);
        refused("after(-1, -1)", x -> x.after(-1, -1), UNKNOWN);
    }

    private static void sheets() {
        c.promise(22);
        cleared("sheet(4, 3, 61)", x -> x.sheet(4, 3, 61), UNKNOWN);
        cleared("sheet(-1, 0, -1)", x -> x.sheet(-1, 0, -1), UNKNOWN);
        cleared("sheet(0, 3, -1)", x -> x.sheet(0, 3, -1), OUTSIDE);
        cleared("sheet(0, -1, 1)", x -> x.sheet(0, -1, 1), OUTSIDE);
        cleared("sheet(0, 0, 61)", x -> x.sheet(0, 0, 61), OUTSIDE);
        cleared("sheet(0, 0, MAX)", x -> x.sheet(0, 0, MAX), OUTSIDE);
        faulty("sheet(0, 0, -1)", x -> x.sheet(0, 0, -1), SIZE);
        faulty("sheet(3, 2, MIN)", x -> x.sheet(3, 2, MIN), SIZE);
        c.promise(23);
        refused("lose(4)", x -> x.lose(4), UNKNOWN);
        refused("lose(-1)", x -> x.lose(-1), UNKNOWN);
        refused("lose(3)", x -> x.lose(3), 0);
        c.promise(24);
        cleared("put(4, -1, 1)", x -> x.put(4, -1, 1), UNKNOWN);
        cleared("put(-1, 0, 1)", x -> x.put(-1, 0, 1), UNKNOWN);
        faulty("put(3, -1, 1)", x -> x.put(3, -1, 1), NULL);
        faulty("put(1, -1, 1)", x -> x.put(1, -1, 1), INDEX);
        faulty("put(1, 3, 1)", x -> x.put(1, 3, 1), INDEX);
        faulty("put(2, 0, 1)", x -> x.put(2, 0, 1), INDEX);
        faulty("put(1, MIN, 1)", x -> x.put(1, MIN, 1), INDEX);
        c.promise(25);
        lost("cell(4, -1, 3)", x -> x.cell(4, -1, 3), 0);
        lost("cell(-1, 0, 0)", x -> x.cell(-1, 0, 0), 0);
        lost("cell(1, -1, 3)", x -> x.cell(1, -1, 3), 0);
        lost("cell(1, 0, -1)", x -> x.cell(1, 0, -1), 0);
        lost("cell(3, 0, 3)", x -> x.cell(3, 0, 3), 0);
        lost("cell(1, -1, 0)", x -> x.cell(1, -1, 0), CAST);
        lost("cell(2, 0, 1)", x -> x.cell(2, 0, 1), CAST);
        lost("cell(3, -1, 0)", x -> x.cell(3, -1, 0), NULL);
        lost("cell(1, -1, 1)", x -> x.cell(1, -1, 1), INDEX);
        lost("cell(1, 3, 1)", x -> x.cell(1, 3, 1), INDEX);
        lost("cell(2, 0, 2)", x -> x.cell(2, 0, 2), INDEX);
    }

    private static void copies() {
        c.promise(26);
        cleared("copy(4, -1, 3, -1, -1)", x -> x.copy(4, -1, 3, -1, -1), UNKNOWN);
        cleared("copy(3, -1, 4, -1, -1)", x -> x.copy(3, -1, 4, -1, -1), UNKNOWN);
        cleared("copy(-1, 0, 0, 0, 1)", x -> x.copy(-1, 0, 0, 0, 1), UNKNOWN);
        cleared("copy(0, 0, -1, 0, 1)", x -> x.copy(0, 0, -1, 0, 1), UNKNOWN);
        faulty("copy(3, -1, 0, -1, -1)", x -> x.copy(3, -1, 0, -1, -1), NULL);
        faulty("copy(0, -1, 3, -1, -1)", x -> x.copy(0, -1, 3, -1, -1), NULL);
        faulty("copy(3, 0, 3, 0, 0)", x -> x.copy(3, 0, 3, 0, 0), NULL);
        faulty("copy(0, -1, 1, -1, -1)", x -> x.copy(0, -1, 1, -1, -1), CAST);
        faulty("copy(2, 0, 1, 0, 0)", x -> x.copy(2, 0, 1, 0, 0), CAST);
        faulty("copy(1, -1, 1, 0, 1)", x -> x.copy(1, -1, 1, 0, 1), INDEX);
        faulty("copy(1, 0, 1, -1, 1)", x -> x.copy(1, 0, 1, -1, 1), INDEX);
        faulty("copy(1, 2, 1, 2, -1)", x -> x.copy(1, 2, 1, 2, -1), INDEX);
        faulty("copy(1, 2, 1, 0, 2)", x -> x.copy(1, 2, 1, 0, 2), INDEX);
        faulty("copy(1, 0, 1, 2, 2)", x -> x.copy(1, 0, 1, 2, 2), INDEX);
        faulty("copy(1, 4, 1, 0, 0)", x -> x.copy(1, 4, 1, 0, 0), INDEX);
        faulty("copy(1, 0, 1, 4, 0)", x -> x.copy(1, 0, 1, 4, 0), INDEX);
        faulty("copy(1, -1, 1, 0, 0)", x -> x.copy(1, -1, 1, 0, 0), INDEX);
        faulty("copy(1, 0, 1, -1, 0)", x -> x.copy(1, 0, 1, -1, 0), INDEX);
        faulty("copy(1, 2, 1, 1, MAX)", x -> x.copy(1, 2, 1, 1, MAX), INDEX);
        faulty("copy(1, MAX, 1, 1, MAX)", x -> x.copy(1, MAX, 1, 1, MAX), INDEX);
        faulty("copy(1, 1, 1, 1, MIN)", x -> x.copy(1, 1, 1, 1, MIN), INDEX);
        faulty("copy(2, 0, 2, 0, 1)", x -> x.copy(2, 0, 2, 0, 1), INDEX);
    }

    private static void parts() {
        c.promise(27);
        refused("tell(3)", x -> x.tell(3), UNKNOWN);
        refused("tell(-1)", x -> x.tell(-1), UNKNOWN);
        c.promise(28);
        refused("knock(3)", x -> x.knock(3), UNKNOWN);
        refused("knock(-1)", x -> x.knock(-1), UNKNOWN);
        c.promise(29);
        cleared("as(3, 3)", x -> x.as(3, 3), UNKNOWN);
        cleared("as(-1, 0)", x -> x.as(-1, 0), UNKNOWN);
        c.promise(32);
        refused("many(-1)", x -> x.many(-1), OUTSIDE);
        refused("many(4)", x -> x.many(4), OUTSIDE);
    }

    /** Of a TOWN alone: its HOUSE, its GUEST is there, and another number is not as told. */
    private static void inATown() {
        c.promise(3);
        refused("ofHouse(0, 5)", x -> x.ofHouse(0, 5), OUTSIDE);
        refused("ofHouse(2, -1)", x -> x.ofHouse(2, -1), OUTSIDE);
        c.promise(5);
        refused("ofGuest(0, 4)", x -> x.ofGuest(0, 4), OUTSIDE);
        refused("ofGuest(1, -1)", x -> x.ofGuest(1, -1), OUTSIDE);
        c.promise(6);
        refused("lodge(1, 0)", x -> x.lodge(1, 0), STATE);
        c.promise(7);
        refused("depth(0, 51)", x -> x.depth(0, 51), OUTSIDE);
        refused("depth(2, -1)", x -> x.depth(2, -1), OUTSIDE);
        c.promise(8);
        refused("reach(0, 51)", x -> x.reach(0, 51), OUTSIDE);
        refused("reach(2, -1)", x -> x.reach(2, -1), OUTSIDE);
        c.promise(12);
        refused("lodgings(1, 1)", x -> x.lodgings(1, 1), UNKNOWN);
        refused("lodgings(1, -2)", x -> x.lodgings(1, -2), UNKNOWN);
        refused("lodgings(2, 2)", x -> x.lodgings(2, 2), UNKNOWN);
        c.promise(13);
        refused("feast(0, 0, 50)", x -> x.feast(0, 0, 50), OUTSIDE);
        refused("feast(0, 301, 0)", x -> x.feast(0, 301, 0), OUTSIDE);
        refused("feast(0, 1, 50)", x -> x.feast(0, 1, 50), OUTSIDE);
        refused("feast(0, 1, -1)", x -> x.feast(0, 1, -1), OUTSIDE);
        c.promise(14);
        refused("way(0, 1, 51)", x -> x.way(0, 1, 51), OUTSIDE);
        refused("way(0, 0, -1)", x -> x.way(0, 0, -1), OUTSIDE);
        c.promise(15);
        refused("reading(0, 51, 0)", x -> x.reading(0, 51, 0), OUTSIDE);
        refused("reading(0, -1, 0)", x -> x.reading(0, -1, 0), OUTSIDE);
        refused("reading(0, 0, -1)", x -> x.reading(0, 0, -1), OUTSIDE);
        refused("reading(0, 0, 1000000)", x -> x.reading(0, 0, 1000000), OUTSIDE);
        c.promise(21);
        refused("after(0, 51)", x -> x.after(0, 51), OUTSIDE);
        refused("after(1, -1)", x -> x.after(1, -1), OUTSIDE);
        c.promise(29);
        cleared("as(0, 3)", x -> x.as(0, 3), OUTSIDE);
        cleared("as(0, -1)", x -> x.as(0, -1), OUTSIDE);
        faulty("as(0, 1)", x -> x.as(0, 1), CAST);
        faulty("as(0, 2)", x -> x.as(0, 2), CAST);
        faulty("as(1, 2)", x -> x.as(1, 2), CAST);
    }

    /** What is refused as there are two GUESTS and two READINGS, and no more. */
    private static void ofTwo() {
        c.promise(5);
        refused("ofGuest(2, 4)", x -> x.ofGuest(2, 4), UNKNOWN);
        c.promise(6);
        refused("lodge(2, 0)", x -> x.lodge(2, 0), UNKNOWN);
        c.promise(12);
        refused("lodgings(3, 9)", x -> x.lodgings(3, 9), OUTSIDE);
        refused("lodgings(4, -1)", x -> x.lodgings(4, -1), OUTSIDE);
        c.promise(16);
        refused("back(3)", x -> x.back(3), OUTSIDE);
        c.promise(21);
        refused("after(2, 51)", x -> x.after(2, 51), UNKNOWN);
    }

    private static void ofFull() {
        c.promise(4);
        refused("guest(1, 0, 0)", x -> x.guest(1, 0, 0), FULL);
        refused("guest(30, 49, 49)", x -> x.guest(30, 49, 49), FULL);
        c.promise(12);
        refused("lodgings(4, 4)", x -> x.lodgings(4, 4), UNKNOWN);
        c.promise(15);
        refused("reading(0, 0, 0)", x -> x.reading(0, 0, 0), FULL);
        refused("reading(2, 50, 999999)", x -> x.reading(2, 50, 999999), FULL);
    }

    private static void ofNoTown() {
        c.promise(3);
        refused("ofHouse(0, 0)", x -> x.ofHouse(0, 0), UNKNOWN);
        c.promise(4);
        refused("guest(1, 0, 0)", x -> x.guest(1, 0, 0), STATE);
        c.promise(5);
        refused("ofGuest(0, 0)", x -> x.ofGuest(0, 0), UNKNOWN);
        c.promise(6);
        refused("lodge(0, NONE)", x -> x.lodge(0, NONE), UNKNOWN);
        c.promise(7);
        refused("depth(0, 0)", x -> x.depth(0, 0), UNKNOWN);
        c.promise(8);
        refused("reach(0, 0)", x -> x.reach(0, 0), UNKNOWN);
        c.promise(9);
        refused("planks(-1)", x -> x.planks(-1), STATE);
        refused("planks(0)", x -> x.planks(0), STATE);
        refused("planks(50)", x -> x.planks(50), STATE);
        c.promise(10);
        refused("under(0)", x -> x.under(0), STATE);
        refused("under(1)", x -> x.under(1), STATE);
        c.promise(11);
        refused("open(0, 0)", x -> x.open(0, 0), LOST);
        c.promise(12);
        refused("lodgings(1, -1)", x -> x.lodgings(1, -1), OUTSIDE);
        c.promise(13);
        refused("feast(0, 1, 0)", x -> x.feast(0, 1, 0), UNKNOWN);
        c.promise(14);
        refused("way(0, 0, 0)", x -> x.way(0, 0, 0), UNKNOWN);
        c.promise(15);
        refused("reading(0, 0, 0)", x -> x.reading(0, 0, 0), UNKNOWN);
        c.promise(16);
        refused("back(1)", x -> x.back(1), OUTSIDE);
        refused("back(0)", x -> x.back(0), 0);
        c.promise(18);
        refused("unseen(0)", x -> x.unseen(0), STATE);
        refused("unseen(1)", x -> x.unseen(1), STATE);
        c.promise(19);
        refused("piles(0)", x -> x.piles(0), STATE);
        refused("piles(1)", x -> x.piles(1), STATE);
        c.promise(20);
        refused("settles()", x -> x.settles(), STATE);
        c.promise(21);
        refused("after(0, 0)", x -> x.after(0, 0), UNKNOWN);
        c.promise(27);
        refused("tell(0)", x -> x.tell(0), UNKNOWN);
        c.promise(28);
        refused("knock(0)", x -> x.knock(0), UNKNOWN);
        c.promise(29);
        cleared("as(0, 0)", x -> x.as(0, 0), UNKNOWN);
    }

    /** What is no refusal, but asks only, changes nothing either. */
    private static void asked(String call, Call made) {
        row(call, made, made.on(made()), CAST);
    }

    private static void questions() {
        c.promise(3);
        asked("ofHouse(0, 0)", x -> x.ofHouse(0, 0));
        c.promise(5);
        asked("ofGuest(0, 3)", x -> x.ofGuest(0, 3));
        c.promise(7);
        asked("depth(0, 50)", x -> x.depth(0, 50));
        c.promise(8);
        asked("reach(0, 50)", x -> x.reach(0, 50));
        c.promise(9);
        asked("planks(-1)", x -> x.planks(-1));
        c.promise(10);
        asked("under(0)", x -> x.under(0));
        c.promise(11);
        asked("open(0, 0)", x -> x.open(0, 0));
        c.promise(12);
        asked("lodgings(2, 1)", x -> x.lodgings(2, 1));
        c.promise(13);
        asked("feast(0, 300, 0)", x -> x.feast(0, 300, 0));
        c.promise(14);
        asked("way(0, 2, 0)", x -> x.way(0, 2, 0));
        c.promise(16);
        asked("back(0)", x -> x.back(0));
        c.promise(17);
        asked("right()", x -> x.right());
        c.promise(18);
        asked("unseen(0)", x -> x.unseen(0));
        c.promise(19);
        asked("piles(1)", x -> x.piles(1));
        c.promise(20);
        asked("settles()", x -> x.settles());
        c.promise(21);
        asked("after(0, 50)", x -> x.after(0, 50));
        c.promise(30);
        asked("trace()", x -> x.trace());
        c.promise(31);
        asked("fault()", x -> x.fault());
        c.promise(32);
        asked("many(3)", x -> x.many(3));
        c.promise(29);
        cleared("as(2, 1)", x -> x.as(2, 1), 1);
        c.promise(25);
        cleared("cell(1, 2, 1)", x -> x.cell(1, 2, 1), 77);
        c.promise(26);
        cleared("copy(1, 3, 1, 3, 0)", x -> x.copy(1, 3, 1, 3, 0), 0);
        cleared("copy(2, 0, 2, 0, 0)", x -> x.copy(2, 0, 2, 0, 0), 0);
        c.promise(6);
        asked("lodge(0, 0), his own bed", x -> x.lodge(0, 0));
    }

    public static void main(String[] args) {
        for (Kept k : Kept.values()) {
            kept = k;
            town();
            guests();
            plansAndReadings();
            sheets();
            copies();
            parts();
            if (k == Kept.NO_TOWN) {
                ofNoTown();
            } else {
                inATown();
                questions();
            }
        }
        kept = Kept.TOWN;
        ofTwo();
        kept = Kept.FULL_TOWN;
        ofFull();
        c.end();
    }
}
