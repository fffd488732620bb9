/** The edges that promises 20 and 21 name: settles, after. */
public final class RentEdgesTest {
    private static final int UNKNOWN = BogTown.UNKNOWN, OUTSIDE = BogTown.OUTSIDE, STATE = BogTown.STATE,
        NONE = BogTown.NONE;
    private static final int MIN = Integer.MIN_VALUE, MAX = Integer.MAX_VALUE;
    private static final String SEVEN = "t0;h1101;h1101;h1101;h1101;h1101;h1101;h1101";
    /** GUESTS: weight, first, last, house. Nine rounds, and then none moves any more. */
    private static final String LONG = "t6;h9646;p9649;h4275;p4361;h9441";
    private static final int[][] LONG_GUESTS = {{15, 5, 24, 4}, {6, 32, 35, 1}, {7, 30, 44, 0}, {12, 38, 43, 4},
        {9, 10, 41, 0}, {10, 3, 36, 1}, {18, 36, 39, 0}, {25, 6, 47, 0}};
    /** They never come to rest. */
    private static final String NEVER = "t4;p8448;i8976;i2495;p2118";
    private static final int[][] NEVER_GUESTS = {{15, 29, 46, 2}, {12, 23, 38, 0}};
    private static final Check c = new Check();

    private static BogTown lodged(String text, int[][] guests) {
        BogTown x = Check.town(text);
        for (int g = 0; g < guests.length; g++) {
            x.guest(guests[g][0], guests[g][1], guests[g][2]);
            c.due("LODGED " + g, x.lodge(g, guests[g][3]), NONE);
        }
        return x;
    }

    /** "0: none would": nobody there, nobody LODGED, nobody who would sleep less deep. */
    private static void noneWould() {
        c.promise(20);
        c.due("no TOWN", new BogTown().settles(), STATE);
        BogTown x = Check.town(SEVEN);
        c.due("no GUESTS", x.settles(), 0);
        x.guest(30, 0, 49);
        c.due("none LODGED", x.settles(), 0);
        c.promise(21);
        c.due("in none", x.after(0, 0), NONE);
        c.due("in none", x.after(0, 50), NONE);
        for (int h = 0; h < 7; h++) {
            c.promise(20);
            x.lodge(0, h);
            c.due("all alike: he stays in " + h, x.settles(), 0);
            c.promise(21);
            c.due("behind none", x.after(0, 0), h);
            c.due("behind one", x.after(0, 1), h);
            c.due("behind 50", x.after(0, 50), h);
        }
    }

    /** "rounds (0 .. 50)". */
    private static void numbers() {
        c.promise(21);
        BogTown x = Check.town(SEVEN);
        x.guest(30, 0, 49);
        x.lodge(0, 6);
        for (int r = -2; r <= 52; r++) {
            c.due("rounds " + r, x.after(0, r), r >= 0 && r <= 50 ? 6 : OUTSIDE);
        }
        c.due("far below", x.after(0, MIN), OUTSIDE);
        c.due("far above", x.after(0, MAX), OUTSIDE);
        for (int g : new int[] {MIN, -9, -1, 1, 7, 8, MAX}) {
            c.due("no GUEST " + g, x.after(g, 0), UNKNOWN);
            c.due("UNKNOWN ahead of OUTSIDE", x.after(g, 51), UNKNOWN);
        }
    }

    /** "of several he stays, if he can, else the least". */
    private static void ofSeveral() {
        c.promise(21);
        // HOUSE 3 gives more than the others, who are alike.
        BogTown x = Check.town("t0;h1201;h1101;h1101;h1301;h1101;h1101");
        x.guest(8, 0, 0);
        for (int h = 0; h < 6; h++) {
            x.lodge(0, h);
            int want = h == 0 || h == 3 ? 1 : h;
            c.due("from " + h, x.after(0, 1), want);
            c.promise(20);
            c.due("rounds from " + h, x.settles(), want == h ? 0 : 1);
            c.promise(21);
        }
        x.guest(1, 0, 0);
        x.lodge(1, 1);
        x.lodge(0, 3);
        c.due("the least that has a BED", x.after(0, 1), 2);
        c.due("the other goes from beside him: of 4 and 5 the least", x.after(1, 1), 4);
    }

    /** "there must be a BED in each of them": taken in his first night, in his last, in neither. */
    private static void beds() {
        c.promise(21);
        int[][] nights = {{0, 9}, {0, 10}, {10, 10}, {15, 15}, {20, 20}, {20, 49}, {21, 49}};
        boolean[] free = {true, false, false, false, false, false, true};
        for (int k = 0; k < nights.length; k++) {
            // HOUSE 0 gives 9; INN 1, which comes up by 45 and more, is dry whoever sleeps there.
            BogTown x = Check.town("t0;h1901;i1199");
            x.guest(10, 10, 20);
            x.guest(1, nights[k][0], nights[k][1]);
            x.lodge(0, 0);
            x.lodge(1, 1);
            String who = nights[k][0] + " to " + nights[k][1];
            c.promise(21);
            c.due("the other is there " + who, x.after(0, 1), free[k] ? 1 : 0);
            c.due("and stays", x.after(1, 50), 1);
            c.promise(20);
            c.due("rounds", x.settles(), free[k] ? 1 : 0);
        }
    }

    /** "DEPTHS at the dawns behind all his nights": of his nights alone, each of them. */
    private static void hisNights() {
        c.promise(21);
        // The other is in HOUSE 0 in one night; if nobody sleeps there in the next, all of it comes up.
        int[] night = {8, 9, 10, 15, 20, 21};
        int[] want = {0, 1, 2, 2, 2, 0};
        for (int k = 0; k < night.length; k++) {
            BogTown x = Check.town("t0;h9121;h9129;h9121");
            x.guest(1, 10, 20);
            x.guest(20, night[k], night[k]);
            x.lodge(0, 0);
            x.lodge(1, 0);
            c.due("the other in night " + night[k], x.after(0, 1), want[k]);
        }
        BogTown first = Check.town("t0;h9109;h9109;h9109");
        first.guest(1, 0, 0);
        first.guest(8, 0, 0);
        first.lodge(0, 1);
        first.lodge(1, 0);
        c.due("the first night: beside 2", first.after(0, 1), 2);
        BogTown last = Check.town("t0;h9109;h9109;h9109");
        last.guest(1, 49, 49);
        last.guest(8, 49, 49);
        last.lodge(0, 0);
        last.lodge(1, 0);
        c.due("the last night: away from 8", last.after(0, 1), 2);
    }

    /** Each round of a run is the first one of those who lie as they do behind the one ahead. */
    private static void roundByRound(String text, int[][] guests) {
        BogTown x = lodged(text, guests);
        int[][] now = new int[guests.length][];
        for (int g = 0; g < guests.length; g++) {
            now[g] = guests[g].clone();
        }
        for (int r = 0; r < 50; r++) {
            BogTown y = lodged(text, now);
            boolean moved = false;
            for (int g = 0; g < guests.length; g++) {
                c.due("GUEST " + g + " behind " + r, x.after(g, r), now[g][3]);
                now[g][3] = y.after(g, 1);
                moved |= now[g][3] != y.after(g, 0);
            }
            c.due("none moves in round " + (r + 1), y.settles() == 0 ? 1 : 0, moved ? 0 : 1);
        }
        for (int g = 0; g < guests.length; g++) {
            c.due("GUEST " + g + " behind 50", x.after(g, 50), now[g][3]);
        }
    }

    /** "behind how many rounds none moved any more", "NONE: not in 50". */
    private static void howManyRounds() {
        c.promise(20);
        BogTown x = lodged(LONG, LONG_GUESTS);
        c.due("nine rounds", x.settles(), 9);
        boolean movedLast = false;
        for (int g = 0; g < 8; g++) {
            movedLast |= x.after(g, 8) != x.after(g, 9);
            c.due("as behind 50", x.after(g, 9), x.after(g, 50));
        }
        c.holds("somebody moved in the ninth", movedLast);
        c.due("never", lodged(NEVER, NEVER_GUESTS).settles(), NONE);
        c.promise(21);
        roundByRound(LONG, LONG_GUESTS);
        roundByRound(NEVER, NEVER_GUESTS);
    }

    public static void main(String[] args) {
        noneWould();
        numbers();
        ofSeveral();
        beds();
        hisNights();
        howManyRounds();
        c.end();
    }
}
