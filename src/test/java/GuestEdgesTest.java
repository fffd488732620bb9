/** The edges that promises 4 to 6 name: guest, ofGuest, lodge. */
public final class GuestEdgesTest {
    private static final int UNKNOWN = BogTown.UNKNOWN, OUTSIDE = BogTown.OUTSIDE, STATE = BogTown.STATE,
        FULL = BogTown.FULL, NONE = BogTown.NONE;
    private static final int MIN = Integer.MIN_VALUE, MAX = Integer.MAX_VALUE;
    private static final Check c = new Check();

    private static BogTown full(String text) {
        BogTown x = Check.town(text);
        for (int g = 0; g < 8; g++) {
            x.guest(1 + g, g, 49 - g);
        }
        return x;
    }

    /** "WEIGHT (1 .. 30)": where there is a TOWN, where there is none, and where all have come. */
    private static void weights() {
        c.promise(4);
        for (int w : new int[] {MIN, -30, -1, 0, 1, 2, 29, 30, 31, 300, MAX}) {
            boolean told = w >= 1 && w <= 30;
            BogTown x = Check.town("t3;h3521;i2413");
            c.due("WEIGHT " + w, x.guest(w, 0, 49), told ? 0 : OUTSIDE);
            c.due("they came", x.many(2), told ? 1 : 0);
            c.due("of him", x.ofGuest(0, 0), told ? w : UNKNOWN);
            c.due("no TOWN", new BogTown().guest(w, 0, 49), told ? STATE : OUTSIDE);
            c.due("FULL", full("t3;h3521;i2413").guest(w, 0, 49), told ? FULL : OUTSIDE);
        }
    }

    /** "FIRST and LAST night (0 .. 49)", "also LAST below FIRST": each of them with each. */
    private static void nights() {
        c.promise(4);
        for (int first = -2; first <= 51; first++) {
            BogTown none = new BogTown();
            BogTown all = full("t3;h3521;i2413");
            BogTown x = Check.town("t3;h3521;i2413");
            int came = 0;
            for (int last = -2; last <= 51; last++) {
                boolean told = first >= 0 && first <= last && last <= 49;
                String call = "guest(1, " + first + ", " + last + ")";
                c.due(call + " without a TOWN", none.guest(1, first, last), told ? STATE : OUTSIDE);
                c.due(call + " of nine", all.guest(1, first, last), told ? FULL : OUTSIDE);
                c.due(call, x.guest(1, first, last), !told ? OUTSIDE : came < 8 ? came : FULL);
                if (told && came < 8) {
                    c.due(call + ": FIRST", x.ofGuest(came, 1), first);
                    c.due(call + ": LAST", x.ofGuest(came, 2), last);
                    came++;
                }
            }
        }
        BogTown x = Check.town("t3;h3521;i2413");
        c.due("far below", x.guest(1, MIN, MIN), OUTSIDE);
        c.due("far below", x.guest(1, MIN, 0), OUTSIDE);
        c.due("far above", x.guest(1, 0, MAX), OUTSIDE);
        c.due("far above", x.guest(1, MAX, MAX), OUTSIDE);
        c.due("crossed", x.guest(1, MAX, MIN), OUTSIDE);
    }

    /** "GUESTS, 8 ever, numbered as they come". */
    private static void eightEver() {
        c.promise(4);
        BogTown x = Check.town("t3;h3521;i2413");
        for (int g = 0; g < 8; g++) {
            c.due("so many", x.many(2), g);
            c.due("not there yet", x.ofGuest(g, 0), UNKNOWN);
            c.due("GUEST " + g, x.guest(30 - g, 0, 0), g);
            c.due("not LODGED", x.ofGuest(g, 3), NONE);
        }
        for (int again = 0; again < 3; again++) {
            c.due("a ninth", x.guest(1, 0, 0), FULL);
        }
        x.lodge(7, 0);
        x.lodge(7, NONE);
        c.due("nobody ever leaves", x.guest(1, 0, 0), FULL);
        c.due("eight", x.many(2), 8);
        c.due("no ninth", x.ofGuest(8, 0), UNKNOWN);
    }

    private static void ofGuest() {
        c.promise(5);
        BogTown x = Check.town("t3;h1521;i2413;h1111;h1111;h1111;h1111;p1111");
        x.guest(1, 0, 0);
        x.guest(30, 49, 49);
        x.guest(30, 0, 49);
        x.lodge(0, 0);
        x.lodge(1, 6);
        int[][] told = {{1, 0, 0, 0}, {30, 49, 49, 6}, {30, 0, 49, NONE}};
        for (int g = 0; g < 3; g++) {
            for (int what = 0; what < 4; what++) {
                c.due("ofGuest " + g + " " + what, x.ofGuest(g, what), told[g][what]);
            }
            for (int what : new int[] {MIN, -1, 4, MAX}) {
                c.due("ofGuest " + g + " " + what, x.ofGuest(g, what), OUTSIDE);
            }
        }
        for (int g : new int[] {MIN, -9, -1, 3, 7, 8, MAX}) {
            c.due("no GUEST " + g, x.ofGuest(g, 3), UNKNOWN);
            c.due("UNKNOWN ahead of OUTSIDE", x.ofGuest(g, 4), UNKNOWN);
        }
    }

    /** "there is no BED": as many as there are BEDS, and one more. */
    private static void beds() {
        c.promise(6);
        for (int beds = 1; beds <= 9; beds++) {
            BogTown x = Check.town("t3;h9521;i" + beds + "413");
            for (int g = 0; g < 8; g++) {
                x.guest(1, 10, 20);
                c.due(beds + " BEDS, GUEST " + g, x.lodge(g, 1), g < beds ? NONE : STATE);
                c.due("where he is", x.ofGuest(g, 3), g < beds ? 1 : NONE);
            }
            c.due("his own BED is his", x.lodge(0, 1), 1);
            c.due("and again", x.lodge(0, 1), 1);
            c.due("out of it", x.lodge(0, NONE), 1);
            c.due("for the last", x.lodge(7, 1), beds >= 8 ? 1 : NONE);
            c.due("and back", x.lodge(0, 1), beds >= 8 ? NONE : STATE);
        }
    }

    /** "no BED in one of his nights": the other is there from night 20 to night 30. */
    private static void oneOfHisNights() {
        c.promise(6);
        int[][] nights = {{0, 19}, {0, 20}, {20, 20}, {25, 25}, {0, 49}, {30, 30}, {30, 49}, {31, 49}, {20, 30}, {19, 31}, {31, 31}, {19, 19}};
        boolean[] free = {true, false, false, false, false, false, false, true, false, false, true, true};
        for (int k = 0; k < nights.length; k++) {
            BogTown x = Check.town("t3;h1521;i2413");
            x.guest(1, 20, 30);
            x.guest(1, nights[k][0], nights[k][1]);
            x.lodge(0, 0);
            String who = nights[k][0] + " to " + nights[k][1];
            c.due(who, x.lodge(1, 0), free[k] ? NONE : STATE);
            c.due(who + ", in another one", x.lodge(1, 1), free[k] ? 0 : NONE);
            c.due(who + ", back", x.lodge(1, 0), free[k] ? 1 : STATE);
            c.due(who + ", where he is", x.ofGuest(1, 3), free[k] ? 0 : 1);
        }
    }

    /** The first night and the last one; and two BEDS, one of which changes hands. */
    private static void endsOfTheNights() {
        c.promise(6);
        BogTown x = Check.town("t3;h2521;i1413");
        int[][] nights = {{0, 24}, {25, 49}, {0, 49}, {24, 25}, {0, 0}, {49, 49}, {24, 24}, {25, 25}};
        for (int[] n : nights) {
            x.guest(1, n[0], n[1]);
        }
        for (int g = 0; g < 8; g++) {
            c.due("GUEST " + g, x.lodge(g, 0), g < 3 ? NONE : STATE);
        }
        x.lodge(1, NONE);
        int[] want = {STATE, STATE, NONE, STATE, NONE};
        for (int g = 3; g < 8; g++) {
            c.due("from night 25 on, GUEST " + g, x.lodge(g, 0), want[g - 3]);
        }
        c.due("nights 25 and 49 are full", x.lodge(1, 0), STATE);
        x.lodge(5, NONE);
        c.due("night 25 is", x.lodge(1, 0), STATE);
        x.lodge(7, 1);
        c.due("none is", x.lodge(1, 0), NONE);
    }

    /** "or in none (NONE)": that is always free; no other number below 0 is. */
    private static void none() {
        c.promise(6);
        BogTown x = Check.town("t3;h1521;i2413");
        x.guest(1, 0, 49);
        c.due("not LODGED", x.lodge(0, NONE), NONE);
        c.due("LODGED", x.lodge(0, 1), NONE);
        c.due("where he was", x.lodge(0, 0), 1);
        c.due("where he was", x.lodge(0, NONE), 0);
        c.due("not LODGED again", x.lodge(0, NONE), NONE);
        for (int h : new int[] {MIN, -10, -8, -3, -2, -1, 2, 7, MAX}) {
            c.due("no HOUSE " + h, x.lodge(0, h), UNKNOWN);
        }
        for (int g : new int[] {MIN, -9, -1, 1, 7, 8, MAX}) {
            c.due("no GUEST " + g, x.lodge(g, 0), UNKNOWN);
            c.due("no GUEST " + g + " in none", x.lodge(g, NONE), UNKNOWN);
        }
        c.due("nothing changed", x.ofGuest(0, 3), NONE);
    }

    public static void main(String[] args) {
        weights();
        nights();
        eightEver();
        ofGuest();
        beds();
        oneOfHisNights();
        endsOfTheNights();
        none();
        c.end();
    }
}
