import java.math.BigInteger;

/** The edges that promises 7 to 11 name: depth, reach, planks, under, open. */
public final class NightEdgesTest {
    private static final int UNKNOWN = BogTown.UNKNOWN, OUTSIDE = BogTown.OUTSIDE, STATE = BogTown.STATE,
        NONE = BogTown.NONE;
    private static final int MIN = Integer.MIN_VALUE, MAX = Integer.MAX_VALUE;
    private static final Check c = new Check();

    /** GUESTS of so much WEIGHT in all sleep in a HOUSE. */
    private static void sleep(BogTown x, int h, int weight, int first, int last) {
        for (int left = weight; left > 0; left -= 30) {
            int g = x.guest(Math.min(left, 30), first, last);
            x.lodge(g, h);
        }
    }

    private static BogTown slept(String text, int h, int weight, int first, int last) {
        BogTown x = Check.town(text);
        sleep(x, h, weight, first, last);
        return x;
    }

    /** "At dawn n so many nights are over (0 .. 50)", "at first 0", "from FIRST to LAST". */
    private static void dawns() {
        c.promise(7);
        BogTown x = slept("t0;h1101;h1101", 0, 3, 0, 49);
        for (int d = 0; d <= 50; d++) {
            c.due("3 a night, dawn " + d, x.depth(0, d), 3 * d);
        }
        for (int d : new int[] {MIN, -2, -1, 51, 52, MAX}) {
            c.due("no dawn " + d, x.depth(0, d), OUTSIDE);
        }
        for (int h : new int[] {MIN, -9, -1, 2, 7, MAX}) {
            c.due("no HOUSE " + h, x.depth(h, 0), UNKNOWN);
            c.due("UNKNOWN ahead of OUTSIDE", x.depth(h, 51), UNKNOWN);
        }
        for (int night = 0; night < 50; night++) {
            BogTown y = slept("t0;h1101;h1101", 1, 3, night, night);
            c.due("ahead of night " + night, y.depth(1, night), 0);
            c.due("behind it", y.depth(1, night + 1), 3);
            c.due("at the last dawn", y.depth(1, 50), 3);
        }
        BogTown z = slept("t0;h1101;h1101", 1, 3, 48, 49);
        c.due("ahead of both", z.depth(1, 48), 0);
        c.due("behind one", z.depth(1, 49), 3);
        c.due("behind both", z.depth(1, 50), 6);
    }

    /** "of a PILED one the half of that", "a fourth of PRESSED", "Quotients are cut". */
    private static void cuts() {
        c.promise(7);
        int[] pressed = {1, 2, 3, 4, 5, 7, 8, 15, 16, 17, 30};
        int[] fourth = {0, 0, 0, 1, 1, 1, 2, 3, 4, 4, 7};
        int[] half = {0, 1, 1, 2, 2, 3, 4, 7, 8, 8, 15};
        int[] fourthOfHalf = {0, 0, 0, 0, 0, 0, 1, 1, 2, 2, 3};
        for (int k = 0; k < pressed.length; k++) {
            BogTown x = slept("t0;h1101;h1101;p1101;p1101", 0, pressed[k], 0, 0);
            c.due("PRESSED", x.depth(0, 1), pressed[k]);
            c.due("a fourth of " + pressed[k], x.depth(1, 1), fourth[k]);
            c.due("not further", x.depth(2, 1), 0);
            x.lodge(0, 3);
            c.due("the half of " + pressed[k], x.depth(3, 1), half[k]);
            c.due("a fourth of the half", x.depth(2, 1), fourthOfHalf[k]);
            c.due("not further", x.depth(1, 1), 0);
        }
    }

    /** WEIGHTS are summed up first, then come GIVES, the half, the fourth; but each HOUSE's alone. */
    private static void sumsAheadOfCuts() {
        c.promise(7);
        BogTown x = Check.town("t0;p9101;h9101;p9101");
        for (int g = 0; g < 4; g++) {
            x.guest(1, 0, 0);
            x.lodge(g, 0);
        }
        c.due("the half of 4", x.depth(0, 1), 2);
        x.lodge(3, NONE);
        c.due("the half of 3", x.depth(0, 1), 1);
        for (int g = 0; g < 4; g++) {
            x.lodge(g, 1);
        }
        c.due("a fourth of 4", x.depth(0, 1), 1);
        BogTown y = Check.town("t0;h9101;h9101;h9101");
        y.guest(3, 0, 0);
        y.guest(3, 0, 0);
        y.lodge(0, 0);
        y.lodge(1, 2);
        c.due("a fourth of 3 and one of 3", y.depth(1, 1), 0);
        BogTown z = Check.town("t0;h9101;p9301;h9101");
        z.guest(5, 0, 0);
        z.lodge(0, 1);
        c.due("the half of 15", z.depth(1, 1), 7);
        c.due("a fourth of 7", z.depth(0, 1), 1);
        c.due("to either side", z.depth(2, 1), 1);
    }

    /** "each HOUSE beside it": the row does not close to a ring. */
    private static void endsOfTheRow() {
        c.promise(7);
        for (int h = 0; h < 7; h++) {
            BogTown x = slept("t0;h1101;h1101;h1101;h1101;h1101;h1101;h1101", h, 8, 0, 0);
            for (int other = 0; other < 7; other++) {
                int apart = Math.abs(other - h);
                c.due("in " + h + ", of " + other, x.depth(other, 1), apart == 0 ? 8 : apart == 1 ? 2 : 0);
            }
        }
    }

    /** "10 times RISES, if nobody sleeps there", "5 times RISES of an INN in which somebody does". */
    private static void comesUp() {
        c.promise(7);
        for (int rises = 0; rises <= 9; rises++) {
            for (int kind = 0; kind < 3; kind++) {
                char letter = "hip".charAt(kind);
                BogTown x = slept("t0;" + letter + "91" + rises + "1;h1109", 0, 100, 0, 1);
                int pressed = kind == 2 ? 50 : 100;
                int held = pressed - (kind == 0 ? 0 : 5 * rises);
                String what = letter + " of RISES " + rises;
                c.due(what + ", slept in", x.depth(0, 1), held);
                c.due(what + ", slept in twice", x.depth(0, 2), 2 * held);
                c.due(what + ", empty", x.depth(0, 3), Math.max(0, 2 * held - 10 * rises));
                c.due(what + ", empty twice", x.depth(0, 4), Math.max(0, 2 * held - 20 * rises));
            }
        }
    }

    /** "never below 0": just 0, one above, one below; and all of a night at once. */
    private static void neverBelowNothing() {
        c.promise(7);
        for (int w = 9; w <= 11; w++) {
            BogTown x = slept("t0;h1111;h1101", 0, w, 0, 0);
            c.due("HOUSE at " + w + " less 10", x.depth(0, 2), w == 11 ? 1 : 0);
            c.due("and on", x.depth(0, 3), 0);
        }
        for (int w = 4; w <= 6; w++) {
            BogTown x = slept("t0;i1111;h1101", 0, w, 0, 49);
            c.due("INN: " + w + " less 5", x.depth(0, 1), w == 6 ? 1 : 0);
            c.due("INN: in 50 nights", x.depth(0, 50), w == 6 ? 50 : 0);
        }
        // House 0 is at 5 when 7 of a fourth come and 10 go: 2, not 7.
        BogTown y = Check.town("t0;h1111;h1101");
        sleep(y, 0, 5, 0, 0);
        sleep(y, 1, 28, 1, 1);
        c.due("5 and 7 less 10", y.depth(0, 2), 2);
        // What was cut at 0 is not owed: the next night begins at 0.
        BogTown z = Check.town("t0;h1191;h1101");
        sleep(z, 0, 5, 0, 0);
        sleep(z, 0, 4, 10, 10);
        c.due("0 for long", z.depth(0, 10), 0);
        c.due("and down again", z.depth(0, 11), 4);
    }

    /** A PILED one, PRESSED by the half of 1, is slept in all the same. */
    private static void sleptInByNoWeight() {
        c.promise(7);
        BogTown x = Check.town("t0;p9111;h9101");
        sleep(x, 0, 60, 0, 0);
        sleep(x, 0, 1, 1, 1);
        c.due("30 less 5", x.depth(0, 1), 25);
        c.due("none, less 5", x.depth(0, 2), 20);
        c.due("none, less 10", x.depth(0, 3), 10);
    }

    private static void theDeepest() {
        c.promise(7);
        BogTown x = slept("t9;h9909;h9909", 0, 240, 0, 49);
        c.due("2160 a night", x.depth(0, 50), 108000);
        c.due("540 a night beside it", x.depth(1, 50), 27000);
        c.due("UNDER at once", x.under(0), 1);
        c.due("never even", x.open(0, 0), 0);
    }

    /** "no more than 10 times STEP apart": of either sign, for each STEP. */
    private static void stepsApart() {
        // Pressed by these, a HOUSE and the one beside it are just 10 times STEP apart.
        int[] most = {0, 13, 26, 40, 53, 66, 80, 93, 106, 120};
        for (int step = 0; step <= 9; step++) {
            for (int h = 0; h < 2; h++) {
                for (int more = 0; more < 2; more++) {
                    BogTown x = slept("t" + step + ";h9109;h9109", h, most[step] + more, 0, 0);
                    String what = "STEP " + step + ", HOUSE " + h + (more == 0 ? ", just" : ", one more");
                    c.promise(7);
                    c.due(what, Math.abs(x.depth(0, 1) - x.depth(1, 1)), 10 * step + more);
                    c.promise(8);
                    c.due(what, x.reach(0, 1), more == 0 ? 3 : 1);
                    c.due(what, x.reach(1, 1), more == 0 ? 3 : 2);
                    c.promise(9);
                    c.due(what, x.planks(1), more);
                    c.due(what, x.planks(-1), 50 * more);
                    c.promise(11);
                    c.due(what, x.open(0, 0), 1 - more);
                    c.promise(14);
                    c.due(what, x.way(0, 1, 1), more == 0 ? 1 : NONE);
                    c.due(what, x.way(1, 0, 1), more == 0 ? 1 : NONE);
                }
            }
        }
    }

    /** "itself, too": of seven, one stands apart, at either end of the row even. */
    private static void reach() {
        c.promise(8);
        for (int apart = 0; apart < 7; apart++) {
            BogTown x = slept("t0;h1101;h1101;h1101;h1101;h1101;h1101;h1101", apart, 1, 0, 0);
            for (int h = 0; h < 7; h++) {
                int left = (1 << apart) - 1;
                int want = h < apart ? left : h == apart ? 1 << apart : 127 & ~left & ~(1 << apart);
                c.due(apart + " stands apart, from " + h, x.reach(h, 1), want);
                c.due("at dawn 0 all", x.reach(h, 0), 127);
                c.due("at dawn 50", x.reach(h, 50), want);
            }
            c.promise(9);
            c.due("PLANKS", x.planks(1), apart == 0 || apart == 6 ? 1 : 2);
            c.promise(8);
        }
        BogTown y = Check.town("t0;h1101;h1101");
        for (int d : new int[] {MIN, -1, 51, MAX}) {
            c.due("no dawn " + d, y.reach(0, d), OUTSIDE);
        }
        for (int h : new int[] {MIN, -1, 2, 7, MAX}) {
            c.due("no HOUSE " + h, y.reach(h, 0), UNKNOWN);
            c.due("UNKNOWN ahead of OUTSIDE", y.reach(h, -1), UNKNOWN);
        }
    }

    /** "PLANKS in all: of dawns 1 .. 50": the first dawn and the last one; none, and all of six. */
    private static void planks() {
        c.promise(9);
        BogTown x = slept("t0;h1111;h1101", 0, 1, 0, 0);
        c.due("dawn 0", x.planks(0), 0);
        c.due("dawn 1", x.planks(1), 1);
        c.due("dawn 2", x.planks(2), 0);
        c.due("dawn 1 in all", x.planks(-1), 1);
        BogTown y = slept("t0;h1111;h1101", 0, 1, 49, 49);
        c.due("dawn 49", y.planks(49), 0);
        c.due("dawn 50", y.planks(50), 1);
        c.due("dawn 50 in all", y.planks(-1), 1);
        BogTown z = Check.town("t0;h1101;h1101;h1101;h1101;h1101;h1101;h1101");
        c.due("none", z.planks(-1), 0);
        for (int h = 1; h < 7; h += 2) {
            sleep(z, h, 1, 0, 49);
        }
        c.due("six of seven HOUSES", z.planks(1), 6);
        c.due("six", z.planks(50), 6);
        c.due("300 in all", z.planks(-1), 300);
        for (int d : new int[] {MIN, -9, -2, 51, 52, MAX}) {
            c.due("no dawn " + d, z.planks(d), OUTSIDE);
            c.due("OUTSIDE ahead of STATE", new BogTown().planks(d), OUTSIDE);
        }
        for (int d : new int[] {-1, 0, 50}) {
            c.due("no TOWN, " + d, new BogTown().planks(d), STATE);
        }
    }

    /** "DEPTH is 50 times DOOR or more": for each DOOR, just that and one less. */
    private static void doors() {
        c.promise(10);
        for (int door = 1; door <= 9; door++) {
            String text = "t9;h9109;h910" + door + ";h9109";
            BogTown x = slept(text, 1, 10 * door, 0, 4);
            c.due("DOOR " + door, x.depth(1, 5), 50 * door);
            c.due("DOOR " + door, x.under(0), 5);
            c.due("DOOR " + door, x.under(1), 1);
            BogTown y = slept(text, 1, 10 * door - 1, 0, 4);
            sleep(y, 1, 4, 0, 0);
            c.due("DOOR " + door + ", one less", y.depth(1, 50), 50 * door - 1);
            c.due("DOOR " + door + ", one less", y.under(0), NONE);
            c.due("DOOR " + door + ", one less", y.under(1), NONE);
        }
    }

    /** "The first dawn", "the least such HOUSE": at the first dawn there is, at the last one. */
    private static void under() {
        c.promise(10);
        BogTown x = slept("t9;h9101;h9101", 1, 50, 0, 0);
        c.due("dawn 1", x.under(0), 1);
        c.due("HOUSE 1", x.under(1), 1);
        BogTown y = slept("t9;h9101;h9101", 1, 50, 49, 49);
        c.due("dawn 50", y.under(0), 50);
        c.due("HOUSE 1", y.under(1), 1);
        BogTown up = slept("t9;h9101;h9191", 1, 50, 3, 3);
        c.due("it comes up again", up.depth(1, 5), 0);
        c.due("the first dawn", up.under(0), 4);
        BogTown later = Check.town("t9;h9101;h9109;h9101");
        sleep(later, 2, 50, 6, 6);
        sleep(later, 0, 50, 7, 7);
        c.due("the later of less number", later.under(0), 7);
        c.due("is not the first", later.under(1), 2);
        BogTown both = Check.town("t9;h9101;h9109;h9101");
        sleep(both, 2, 50, 6, 6);
        sleep(both, 0, 50, 6, 6);
        c.due("both at one dawn", both.under(0), 7);
        c.due("the least", both.under(1), 0);
        for (int what : new int[] {MIN, -9, -1, 2, MAX}) {
            c.due("no what " + what, x.under(what), OUTSIDE);
            c.due("OUTSIDE ahead of STATE", new BogTown().under(what), OUTSIDE);
        }
        c.due("no TOWN", new BogTown().under(0), STATE);
        c.due("no TOWN", new BogTown().under(1), STATE);
    }

    /** "as a share of all", "in least terms", the lower number above 0: each share of 50 dawns. */
    private static void shares() {
        c.promise(11);
        for (int n = 0; n <= 50; n++) {
            BogTown x = Check.town("t0;h1101;h1101;h1101");
            if (n < 50) {
                sleep(x, 0, 1, n, 49);
            }
            int by = BigInteger.valueOf(n).gcd(BigInteger.valueOf(50)).intValue();
            c.due(n + " of 50, upper", x.open(0, 0), n / by);
            c.due(n + " of 50, lower", x.open(0, 1), 50 / by);
            c.due("always, upper", x.open(1, 0), 1);
            c.due("always, lower", x.open(1, 1), 1);
        }
        BogTown x = Check.town("t0;h1101;h1101;h1101;h1101;h1101;h1101;h1101");
        c.due("the last but one", x.open(5, 0), 1);
        for (int h : new int[] {MIN, -9, -1, 6, 7, MAX - 1, MAX}) {
            c.due("none behind " + h, x.open(h, 0), BogTown.LOST);
            c.due("none behind " + h, x.open(h, 1), BogTown.LOST);
        }
        for (int which : new int[] {MIN, -1, 2, MAX}) {
            c.due("no number " + which, x.open(0, which), BogTown.LOST);
        }
    }

    public static void main(String[] args) {
        dawns();
        cuts();
        sumsAheadOfCuts();
        endsOfTheRow();
        comesUp();
        neverBelowNothing();
        sleptInByNoWeight();
        theDeepest();
        stepsApart();
        reach();
        planks();
        doors();
        under();
        shares();
        c.end();
    }
}
