/** The edges that promises 15 to 19 name: reading, back, right, unseen, piles. */
public final class ReadingEdgesTest {
    private static final int UNKNOWN = BogTown.UNKNOWN, OUTSIDE = BogTown.OUTSIDE, STATE = BogTown.STATE,
        FULL = BogTown.FULL, NONE = BogTown.NONE;
    private static final int MIN = Integer.MIN_VALUE, MAX = Integer.MAX_VALUE;
    /** Each WEIGHT presses its HOUSE by itself and those beside it by its fourth; nothing comes up. */
    private static final String SEVEN = "t0;h1101;h1101;h1101;h1101;h1101;h1101;h1101";
    private static final Check c = new Check();

    /** "dawn, v (0 .. 999999)": the least and the greatest, one below and one above. */
    private static void numbers() {
        c.promise(15);
        BogTown x = Check.town(SEVEN);
        int count = 0;
        for (int d : new int[] {MIN, -1, 0, 1, 49, 50, 51, MAX}) {
            boolean told = d >= 0 && d <= 50;
            c.due("dawn " + d, x.reading(6, d, 0), told ? count++ : OUTSIDE);
        }
        for (int v : new int[] {MIN, -1, 0, 1, 999998, 999999, 1000000, MAX}) {
            boolean told = v >= 0 && v <= 999999;
            c.due("DEPTH " + v, x.reading(0, 50, v), told ? count++ : OUTSIDE);
        }
        for (int h : new int[] {MIN, -9, -1, 7, 8, MAX}) {
            c.due("no HOUSE " + h, x.reading(h, 0, 0), UNKNOWN);
            c.due("UNKNOWN ahead of OUTSIDE", x.reading(h, 51, -1), UNKNOWN);
        }
        c.due("as many as were taken", x.many(3), count);
    }

    /** "READINGS, 10 at most": the tenth, the eleventh, and again when some were taken back. */
    private static void tenAtMost() {
        c.promise(15);
        BogTown x = Check.town(SEVEN);
        for (int k = 0; k < 10; k++) {
            c.due("so many", x.many(3), k);
            c.due("READING " + k, x.reading(0, 0, 0), k);
        }
        c.due("an eleventh", x.reading(0, 0, 0), FULL);
        c.due("OUTSIDE ahead of FULL", x.reading(0, 51, 0), OUTSIDE);
        c.due("OUTSIDE ahead of FULL", x.reading(0, 0, -1), OUTSIDE);
        c.due("UNKNOWN ahead of FULL", x.reading(7, 0, 0), UNKNOWN);
        c.due("ten", x.many(3), 10);
        x.back(1);
        c.due("the tenth again", x.reading(0, 0, 0), 9);
        c.due("an eleventh", x.reading(0, 0, 0), FULL);
        x.back(10);
        c.due("the first again", x.reading(0, 0, 0), 0);
    }

    /** "(0 .. as many as there are)": with none to ten of them. */
    private static void back() {
        c.promise(16);
        for (int n = 0; n <= 10; n++) {
            for (int k : new int[] {MIN, -1, 0, 1, n - 1, n, n + 1, 11, MAX}) {
                BogTown x = Check.town(SEVEN);
                for (int r = 0; r < n; r++) {
                    x.reading(0, 0, 0);
                }
                boolean told = k >= 0 && k <= n;
                c.due(k + " of " + n, x.back(k), told ? n - k : OUTSIDE);
                c.due("left", x.many(3), told ? n - k : n);
            }
        }
        c.due("no TOWN, none", new BogTown().back(0), 0);
        c.due("no TOWN, one", new BogTown().back(1), OUTSIDE);
    }

    /** "The last k": the wrong one of five goes when it is among them. */
    private static void theLast() {
        c.promise(16);
        for (int wrong = 0; wrong < 5; wrong++) {
            for (int k = 0; k <= 5; k++) {
                BogTown x = Check.town(SEVEN);
                for (int r = 0; r < 5; r++) {
                    x.reading(r, 0, r == wrong ? 1 : 0);
                }
                x.back(k);
                c.due(k + " back, wrong is " + wrong, x.right(), wrong >= 5 - k ? 1 : 0);
            }
        }
    }

    /** "Whether all READINGS are so": one off to either side is not; at the first dawn, at the last. */
    private static void right() {
        c.promise(17);
        c.due("no TOWN", new BogTown().right(), 1);
        BogTown x = Check.town(SEVEN);
        c.due("no READINGS", x.right(), 1);
        x.guest(3, 0, 49);
        x.lodge(0, 6);
        for (int d = 0; d <= 50; d += 25) {
            for (int off = -1; off <= 1; off++) {
                int v = 3 * d + off;
                if (v >= 0) {
                    x.reading(6, d, v);
                    c.due("dawn " + d + ", " + v, x.right(), off == 0 ? 1 : 0);
                    x.back(1);
                }
            }
        }
        x.reading(6, 1, 3);
        x.reading(6, 1, 3);
        c.due("one said twice", x.right(), 1);
        x.reading(6, 1, 4);
        c.due("two that can't both be so", x.right(), 0);
        BogTown y = Check.town(SEVEN);
        for (int r = 0; r < 9; r++) {
            y.reading(r % 7, r, 0);
        }
        c.due("nine are so", y.right(), 1);
        y.reading(0, 50, 999999);
        c.due("the tenth is not", y.right(), 0);
    }

    private static void pairs(String what, int dawn, int h, int v, int many, int first) {
        BogTown x = Check.town(SEVEN);
        x.reading(h, dawn, v);
        c.due(what + ", how many", x.unseen(0), many);
        c.due(what + ", the first", x.unseen(1), first);
    }

    /** "of a WEIGHT 1 .. 30", "in one HOUSE in all nights": the first and the last of all pairs. */
    private static void unseen() {
        c.promise(18);
        BogTown x = Check.town(SEVEN);
        c.due("all pairs of seven", x.unseen(0), 210);
        c.due("the first", x.unseen(1), 1);
        c.due("all pairs of two", Check.town("t0;h1101;h1101").unseen(0), 60);
        pairs("the heaviest in the last", 1, 6, 30, 1, 630);
        pairs("one heavier", 1, 6, 31, 0, NONE);
        pairs("the lightest in the first, or 4 to 7 beside it", 1, 0, 1, 5, 1);
        pairs("28 to 30 beside it, or 7", 1, 6, 7, 4, 528);
        pairs("8", 1, 6, 8, 1, 608);
        pairs("in all nights", 50, 6, 1500, 1, 630);
        pairs("one more", 50, 6, 1501, 0, NONE);
        pairs("one less", 50, 6, 1499, 0, NONE);
        pairs("none who weighs upon it", 50, 0, 0, 153, 101);
        pairs("dawn 0, 0", 0, 3, 0, 210, 1);
        pairs("dawn 0, 1", 0, 3, 1, 0, NONE);
        pairs("the deepest", 50, 3, 999999, 0, NONE);
        for (int what : new int[] {MIN, -1, 2, MAX}) {
            c.due("no what " + what, x.unseen(what), OUTSIDE);
            c.due("OUTSIDE ahead of STATE", new BogTown().unseen(what), OUTSIDE);
        }
        c.due("no TOWN", new BogTown().unseen(0), STATE);
        c.due("no TOWN", new BogTown().unseen(1), STATE);
    }

    /** "without a BED": beside GUESTS in all BEDS; "all READINGS": the tenth of them, too. */
    private static void unseenAmongGuests() {
        c.promise(18);
        BogTown x = Check.town(SEVEN);
        for (int g = 0; g < 7; g++) {
            x.guest(4, 0, 49);
            x.lodge(g, g);
        }
        // 5, 6, 6, 6, 6, 6, 5 a night as all is.
        for (int r = 0; r < 9; r++) {
            x.reading(3, 0, 0);
        }
        x.reading(0, 1, 35);
        c.due("right", x.right(), 0);
        c.due("30 more in the full HOUSE 0", x.unseen(0), 1);
        c.due("30 more in the full HOUSE 0", x.unseen(1), 30);
        x.back(1);
        x.reading(0, 1, 36);
        c.due("31 more", x.unseen(0), 0);
        x.back(1);
        x.reading(6, 50, 250);
        // As deep as without him: he does not weigh upon HOUSE 6 (or by a fourth that is cut).
        c.due("so as it is", x.unseen(0), 153);
        c.due("he sleeps nowhere behind that", x.depth(6, 50), 250);
        c.due("nor is he counted", x.many(2), 7);
    }

    private static void pile(String what, BogTown x, int planks, int set) {
        c.due(what + ", PLANKS", x.piles(0), planks);
        c.due(what + ", the set", x.piles(1), set);
    }

    private static BogTown light(String text, int... houses) {
        BogTown x = Check.town(text);
        for (int g = 0; g < houses.length; g++) {
            x.guest(1, 0, 49);
            x.lodge(g, houses[g]);
        }
        return x;
    }

    /** "a set of 1 or 2 HOUSES", "of several the least as bits": at both ends of the row. */
    private static void piles() {
        c.promise(19);
        pile("none sleeps: one at least", Check.town(SEVEN), 0, 1);
        for (int h = 0; h < 7; h++) {
            pile("under " + h + " alone", light(SEVEN, h), 0, 1 << h);
            for (int other = h + 1; other < 7; other++) {
                pile("under " + h + " and " + other, light(SEVEN, h, other), 0, 1 << h | 1 << other);
            }
        }
        pile("three at the end are too many", light(SEVEN, 4, 5, 6), 50, 1);
        BogTown even = Check.town("t0;h1101;h1101;h1101");
        for (int g = 0; g < 3; g++) {
            even.guest(2, 0, 49);
            even.lodge(g, g);
        }
        c.due("even as it is", even.planks(-1), 0);
        pile("none at all is no set", even, 50, 1);
        even.lodge(2, NONE);
        c.due("2, 2, 0", even.planks(-1), 50);
        pile("1, 1, 0 by {0, 1}, or 2, 2, 0 by {2}", even, 50, 3);
        BogTown x = Check.town("t0;h2109;h2109;h2109");
        x.guest(4, 0, 49);
        x.guest(4, 0, 49);
        x.lodge(0, 0);
        x.lodge(1, 1);
        // 5, 5, 1 a night; 2, 2, 0 with piles under 0 and 1; under 0 or 1 alone all are apart.
        pile("{0, 1} is less than {2}", x, 50, 3);
        BogTown six = Check.town("t0;h1101;h1201;h1101;h1301;h1101;h1201;h1101");
        for (int g = 0; g < 3; g++) {
            six.guest(30, 0, 49);
            six.lodge(g, 2 * g + 1);
        }
        // 15, 60, 37, 90, 37, 60, 15 a night: whatever is piled, all stay apart.
        pile("all apart", six, 300, 1);
        for (int what : new int[] {MIN, -1, 2, MAX}) {
            c.due("no what " + what, x.piles(what), OUTSIDE);
            c.due("OUTSIDE ahead of STATE", new BogTown().piles(what), OUTSIDE);
        }
        c.due("no TOWN", new BogTown().piles(0), STATE);
        c.due("no TOWN", new BogTown().piles(1), STATE);
    }

    /** "they are as PILED ones": half the weight, and as an INN they come up under GUESTS. */
    private static void asPiledOnes() {
        c.promise(19);
        // 10 a night as it is; 5 less 5 with piles: even with the empty one.
        BogTown x = Check.town("t0;h1119;h1119");
        x.guest(10, 0, 49);
        x.lodge(0, 0);
        pile("a HOUSE", x, 0, 1);
        BogTown y = Check.town("t0;h1119;h1119");
        y.guest(12, 0, 49);
        y.lodge(0, 0);
        pile("6 less 5", y, 50, 1);
        BogTown z = Check.town("t0;p1119;h1119");
        z.guest(12, 0, 49);
        z.lodge(0, 0);
        pile("it is PILED already", z, 50, 1);
        c.due("as it is", z.planks(-1), 50);
        c.due("a HOUSE still", x.as(0, 1), -12);
        c.due("as deep as it was", x.depth(0, 50), 500);
    }

    public static void main(String[] args) {
        numbers();
        tenAtMost();
        back();
        theLast();
        right();
        unseen();
        unseenAmongGuests();
        piles();
        asPiledOnes();
        c.end();
    }
}
