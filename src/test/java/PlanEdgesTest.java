/** The edges that promises 12 to 14 name: lodgings, feast, way. */
public final class PlanEdgesTest {
    private static final int UNKNOWN = BogTown.UNKNOWN, OUTSIDE = BogTown.OUTSIDE, NONE = BogTown.NONE;
    private static final int MIN = Integer.MIN_VALUE, MAX = Integer.MAX_VALUE;
    /** STEP 9 and no more than 1 a night: no PLANKS whoever lies where. */
    private static final String EVEN = "t9;h1109;h1109;h1109;h1109;h1109;h1109;h1109";
    private static final Check c = new Check();

    private static void guests(BogTown x, int n, int weight, int first, int last) {
        for (int g = 0; g < n; g++) {
            x.guest(weight, first, last);
        }
    }

    private static void row(String what, BogTown x, int k, int... want) {
        for (int q = 0; q < k; q++) {
            c.due(what + ", HOUSE of " + q, x.lodgings(k, q), want[q]);
        }
    }

    /** "k is not 1 .. 4, or above how many there are": with none to eight GUESTS. */
    private static void howManyGuests() {
        c.promise(12);
        for (int n = 0; n <= 8; n++) {
            BogTown x = Check.town(EVEN);
            guests(x, n, 1, 0, 49);
            for (int k : new int[] {MIN, -1, 0, 1, 2, 3, 4, 5, 6, 8, 9, MAX}) {
                boolean told = k >= 1 && k <= 4 && k <= n;
                c.due(k + " of " + n, x.lodgings(k, -1), told ? 0 : OUTSIDE);
                c.due(k + " of " + n + ", the first", x.lodgings(k, 0), told ? 0 : OUTSIDE);
                c.due("OUTSIDE ahead of UNKNOWN", x.lodgings(k, -2), told ? UNKNOWN : OUTSIDE);
                c.due("q is k", x.lodgings(k, k), told ? UNKNOWN : OUTSIDE);
                c.due("q is k - 1", x.lodgings(k, k - 1), told ? k - 1 : OUTSIDE);
            }
        }
        BogTown x = Check.town(EVEN);
        guests(x, 8, 1, 0, 49);
        for (int q : new int[] {MIN, -9, -2, 3, 4, 8, MAX}) {
            c.due("no GUEST " + q + " of 3", x.lodgings(3, q), UNKNOWN);
        }
    }

    /** "of several the first as a row of HOUSES", "as many as there are BEDS in each night". */
    private static void theFirstRow() {
        c.promise(12);
        BogTown x = Check.town("t9;h2109;h1109;h1109;h1109;h1109");
        guests(x, 5, 1, 10, 20);
        row("two BEDS in the first", x, 4, 0, 0, 1, 2);
        x.lodge(4, 0);
        row("one is taken", x, 4, 0, 1, 2, 3);
        x.lodge(4, 1);
        row("another one is", x, 4, 0, 0, 2, 3);
        x.lodge(0, 4);
        x.lodge(1, 3);
        x.lodge(2, 2);
        row("where they lie is free for them", x, 3, 0, 0, 2);
        row("not for others", x, 1, 0);
        c.due("they lie there still", x.ofGuest(0, 3), 4);
        BogTown y = Check.town("t9;h1109;h1109");
        y.guest(1, 0, 49);
        y.guest(1, 0, 49);
        y.lodge(0, 1);
        y.lodge(1, 0);
        row("the other one's BED is taken", y, 1, 1);
        row("both may change", y, 2, 0, 1);
    }

    /** "NONE: there is no way": no BED at all, no BED in one night, and none but one. */
    private static void noWay() {
        c.promise(12);
        BogTown x = Check.town("t9;h1109;h1109");
        guests(x, 3, 1, 0, 49);
        for (int q = -1; q < 3; q++) {
            c.due("three in two BEDS, " + q, x.lodgings(3, q), NONE);
        }
        c.due("UNKNOWN all the same", x.lodgings(3, 3), UNKNOWN);
        c.due("two in two", x.lodgings(2, -1), 0);
        x.lodge(2, 0);
        for (int q = -1; q < 2; q++) {
            c.due("two in the one that is left, " + q, x.lodgings(2, q), NONE);
        }
        c.due("one in it", x.lodgings(1, 0), 1);
        x.lodge(1, 1);
        c.due("none is left", x.lodgings(1, -1), NONE);
        c.due("none is left", x.lodgings(1, 0), NONE);
        x.lodge(1, NONE);
        c.due("one is left again", x.lodgings(1, 0), 1);
        BogTown y = Check.town("t9;h1109;h1109");
        y.guest(1, 0, 24);
        y.guest(1, 0, 49);
        y.guest(1, 25, 49);
        y.guest(1, 24, 24);
        row("one behind the other", y, 3, 0, 1, 0);
        c.due("night 24 is full", y.lodgings(4, -1), NONE);
        BogTown z = Check.town("t9;h1109;h1109");
        z.guest(1, 0, 24);
        z.guest(1, 25, 49);
        z.guest(1, 0, 49);
        z.guest(1, 25, 25);
        z.lodge(2, 0);
        row("beside the one who stays", z, 2, 1, 1);
    }

    /** "that by which PLANKS in all are the fewest": one PLANK less wins over a row that is ahead. */
    private static void theFewest() {
        c.promise(12);
        // HOUSE 0 goes down under him at once; INN 1 comes up by 5, which is more than he presses.
        BogTown x = Check.town("t0;h1109;i1119");
        x.guest(3, 0, 49);
        c.due("none at all", x.lodgings(1, -1), 0);
        c.due("in the INN", x.lodgings(1, 0), 1);
        x.guest(3, 49, 49);
        x.lodge(1, 0);
        c.due("one PLANK for another one", x.lodgings(1, -1), 1);
        c.due("in the INN still", x.lodgings(1, 0), 1);
        BogTown y = Check.town("t0;h9109;h9109");
        y.guest(1, 0, 48);
        y.guest(1, 0, 49);
        y.lodge(1, 0);
        c.due("uneven at dawn 50 alone", y.lodgings(1, -1), 1);
        c.due("in the other one", y.lodgings(1, 0), 1);
        // 67, 270, 104, 150, 104, 270, 67 a night, and he weighs next to nothing: all apart always.
        BogTown z = Check.town("t0;h9109;h9909;h9109;h9509;h9109;h9909;h9109");
        z.guest(1, 0, 49);
        for (int g = 1; g < 4; g++) {
            z.guest(30, 0, 49);
            z.lodge(g, 2 * g - 1);
        }
        c.due("as many as there can be", z.lodgings(1, -1), 300);
        c.due("all ways alike: the first", z.lodgings(1, 0), 0);
    }

    /** "of a WEIGHT (1 .. 300)", "from a night (0 .. 49) on", "to night 49". */
    private static void feastNumbers() {
        c.promise(13);
        BogTown x = Check.town("t3;i1119;p1999");
        for (int night = 0; night < 50; night++) {
            c.due("of 1, from " + night, x.feast(0, 1, night), 50 - night);
            c.due("of 300, from " + night, x.feast(0, 300, night), Math.min(1, 50 - night));
        }
        for (int w : new int[] {MIN, -1, 0, 301, MAX}) {
            c.due("no WEIGHT " + w, x.feast(0, w, 0), OUTSIDE);
        }
        for (int n : new int[] {MIN, -1, 50, 51, MAX}) {
            c.due("no night " + n, x.feast(0, 1, n), OUTSIDE);
        }
        for (int h : new int[] {MIN, -9, -1, 2, 7, MAX}) {
            c.due("no HOUSE " + h, x.feast(h, 1, 0), UNKNOWN);
            c.due("UNKNOWN ahead of OUTSIDE", x.feast(h, 0, 50), UNKNOWN);
        }
        c.due("the half of 2700", x.feast(1, 300, 0), 0);
        c.due("the half of 900 less 45", x.feast(1, 100, 49), 1);
    }

    /** "before its HOUSE is UNDER at the dawn behind": just UNDER, and one less. */
    private static void feastDoors() {
        c.promise(13);
        for (int door = 1; door <= 6; door++) {
            BogTown x = Check.town("t3;h1109;h110" + door);
            c.due("UNDER at once, DOOR " + door, x.feast(1, Math.min(300, 50 * door), 0), 0);
            c.due("one less, DOOR " + door, x.feast(1, 50 * door - 1, 0), 1);
            c.due("the half of it", x.feast(1, 25 * door, 0), 1);
            c.due("less than the half", x.feast(1, 25 * door - 1, 0), 2);
            c.due("a tenth", x.feast(1, 5 * door, 0), 9);
            c.due("50 nights to the DOOR", x.feast(1, door, 0), 49);
            c.due("to night 49, not UNDER", x.feast(1, door, 1), 49);
            c.due("one night", x.feast(1, 50 * door, 49), 0);
        }
    }

    /** The FEAST keeps its HOUSE down: nothing comes up of it; of an INN the half. */
    private static void feastKeepsDown() {
        c.promise(13);
        BogTown x = Check.town("t3;h1111;i1111;h1109");
        x.guest(30, 0, 0);
        x.lodge(0, 0);
        c.due("30, 40, UNDER", x.feast(0, 10, 1), 1);
        c.due("30, 20, 30, 40, UNDER", x.feast(0, 10, 2), 2);
        x.lodge(0, 1);
        c.due("INN: 25, 30, 35, 40, 45, UNDER", x.feast(1, 10, 1), 4);
        c.due("with a GUEST in the only BED: 35, ..", x.feast(1, 10, 0), 3);
        c.due("beside the GUEST: 17, 27, 37, 47, UNDER", x.feast(0, 10, 0), 4);
        c.due("nobody is there behind it", x.depth(0, 50), 0);
        // UNDER ahead of the FEAST, but not at the dawn behind its first night: 225, 189, ..
        BogTown y = Check.town("t3;i1994;h1109");
        y.guest(30, 0, 0);
        y.lodge(0, 0);
        c.due("UNDER at dawn 1", y.under(0), 1);
        c.due("no more behind it", y.feast(0, 1, 1), 49);
        c.due("198", y.feast(0, 2, 1), 49);
        c.due("207", y.feast(0, 3, 1), 0);
        c.due("at once", y.feast(0, 1, 0), 0);
    }

    /** "from a dawn on", "(to dawn 50)": from each dawn, where nobody sleeps. */
    private static void wayNumbers() {
        c.promise(14);
        BogTown x = Check.town("t0;h1101;h1101;h1101");
        for (int d = 0; d <= 50; d++) {
            c.due("there already, dawn " + d, x.way(1, 1, d), d);
            c.due("one STEP, dawn " + d, x.way(1, 2, d), d);
            c.due("two STEPS, dawn " + d, x.way(2, 0, d), d < 50 ? d + 1 : NONE);
        }
        for (int d : new int[] {MIN, -9, -1, 51, 52, MAX}) {
            c.due("no dawn " + d, x.way(0, 1, d), OUTSIDE);
            c.due("no dawn " + d, x.way(1, 1, d), OUTSIDE);
            c.due("UNKNOWN ahead of OUTSIDE", x.way(3, 1, d), UNKNOWN);
            c.due("UNKNOWN ahead of OUTSIDE", x.way(1, 3, d), UNKNOWN);
        }
        for (int h : new int[] {MIN, -9, -1, 3, 7, MAX}) {
            c.due("no HOUSE " + h, x.way(h, 0, 0), UNKNOWN);
            c.due("no HOUSE " + h, x.way(0, h, 0), UNKNOWN);
            c.due("no HOUSE " + h, x.way(h, h, 0), UNKNOWN);
        }
    }

    /** The last dawn of a STEP: GUESTS come in night 49 (even till dawn 49), or go at dawn 50. */
    private static void wayDawns() {
        c.promise(14);
        BogTown x = Check.town("t0;h1101;h1101;h1101");
        x.guest(1, 49, 49);
        x.lodge(0, 1);
        c.due("dawn 49 is the last", x.way(0, 1, 49), 49);
        c.due("none at dawn 50", x.way(0, 1, 50), NONE);
        c.due("one STEP at 48, one at 49", x.way(0, 2, 48), 49);
        c.due("one STEP at 49, none at 50", x.way(0, 2, 49), NONE);
        c.due("there already", x.way(1, 1, 50), 50);
        // Apart by 49, or by 50, at dawn 1, and by one less at each dawn.
        for (int more = 0; more < 2; more++) {
            BogTown y = Check.town("t0;h3101;h3101");
            int[] weights = {30, 30, 5 + more, 1};
            for (int g = 0; g < 4; g++) {
                y.guest(weights[g], g < 3 ? 0 : 1, g < 3 ? 0 : 49);
                y.lodge(g, g < 3 ? 0 : 1);
            }
            c.due("apart", y.depth(0, 1) - y.depth(1, 1), 49 + more);
            c.due("even at the last dawn, or never", y.way(0, 1, 1), more == 0 ? 50 : NONE);
            c.due("from the last dawn on", y.way(1, 0, 50), more == 0 ? 50 : NONE);
        }
        BogTown z = Check.town("t0;h2101;i2101");
        z.guest(30, 1, 1);
        z.guest(30, 2, 2);
        z.lodge(0, 0);
        z.lodge(1, 1);
        c.due("at dawn 3 they are even again", z.way(0, 1, 2), 3);
        BogTown seven = Check.town(EVEN);
        c.due("the last HOUSE at the last dawn", seven.way(5, 6, 50), 50);
        c.due("from it", seven.way(6, 5, 50), 50);
        c.due("no further", seven.way(6, 4, 50), NONE);
        c.due("the first HOUSE at the last dawn", seven.way(1, 0, 50), 50);
    }

    public static void main(String[] args) {
        howManyGuests();
        theFirstRow();
        noWay();
        theFewest();
        feastNumbers();
        feastDoors();
        feastKeepsDown();
        wayNumbers();
        wayDawns();
        c.end();
    }
}
