/** The edges that promises 27 to 32 name: tell, knock, as, trace, fault, many. */
public final class PartEdgesTest {
    private static final int UNKNOWN = BogTown.UNKNOWN, OUTSIDE = BogTown.OUTSIDE;
    private static final int MIN = Integer.MIN_VALUE, MAX = Integer.MAX_VALUE;
    private static final int[] NO_HOUSE = {MIN, -9, -1, 7, 8, MAX};
    private static final String SEVEN = "t0;h1101;i1101;p1101;h9101;i9101;p9101;h5101";
    private static final String LETTERS = "hiphiph";
    private static final int[] TOLD = {1, 101, 102, 9, 109, 118, 5};
    private static final Check c = new Check();

    private static int left(int trace, int... bodies) {
        for (int b : bodies) {
            trace = 31 * trace + b;
        }
        return trace;
    }

    /** BEDS from 1 to 9, of each kind; what is told, and which bodies ran. */
    private static void tell() {
        for (int beds = 1; beds <= 9; beds++) {
            BogTown x = Check.town("t0;h" + beds + "101;i" + beds + "101;p" + beds + "101");
            c.promise(27);
            c.due("HOUSE", x.tell(0), beds);
            c.due("bodies", x.trace(), 1);
            c.due("INN", x.tell(1), beds + 100);
            c.due("bodies", x.trace(), left(1, 2, 1));
            c.due("PILED", x.tell(2), 2 * beds + 100);
            c.due("bodies", x.trace(), left(1, 2, 1, 3, 2, 1, 1));
        }
        BogTown x = Check.town(SEVEN);
        for (int h = 0; h < 7; h++) {
            c.due("HOUSE " + h, x.tell(h), TOLD[h]);
        }
        int t = x.trace();
        for (int h : NO_HOUSE) {
            c.due("no HOUSE " + h, x.tell(h), UNKNOWN);
            c.due("no body ran", x.trace(), t);
        }
    }

    private static void knock() {
        c.promise(28);
        BogTown x = Check.town(SEVEN);
        int t = 0;
        for (int h = 0; h < 7; h++) {
            boolean piled = LETTERS.charAt(h) == 'p';
            c.due("HOUSE " + h, x.knock(h), piled ? 40 : h);
            t = left(t, piled ? 5 : 4);
            c.due("body", x.trace(), t);
        }
        for (int h : NO_HOUSE) {
            c.due("no HOUSE " + h, x.knock(h), UNKNOWN);
            c.due("no body ran", x.trace(), t);
        }
    }

    /** "1 INN, a HOUSE; 2 PILED, an INN": each HOUSE as each kind, and around the kinds there are. */
    private static void as() {
        c.promise(29);
        BogTown x = Check.town(SEVEN);
        for (int h = 0; h < 7; h++) {
            int is = "hip".indexOf(LETTERS.charAt(h));
            for (int kind : new int[] {MIN, -1, 0, 1, 2, 3, MAX}) {
                int want = kind < 0 || kind > 2 ? OUTSIDE : kind <= is ? 1 : -12;
                c.due("as(" + h + ", " + kind + ")", x.as(h, kind), want);
                c.due("fault", x.fault(), want == -12 ? 2 : 0);
            }
        }
        for (int h : NO_HOUSE) {
            x.as(0, 2);
            c.due("no HOUSE " + h, x.as(h, 0), UNKNOWN);
            c.due("refused", x.fault(), 0);
            c.due("UNKNOWN ahead of OUTSIDE", x.as(h, 3), UNKNOWN);
        }
        c.due("no body ran", x.trace(), 0);
    }

    /** "an int that wraps, 0 at first": the seventh body is the first that goes beyond an int. */
    private static void trace() {
        c.promise(30);
        BogTown x = Check.town(SEVEN);
        c.due("at first", x.trace(), 0);
        int[] want = {5, 160, 4965, 153920, 4771525, 147917280, 290468389, 414585472, -32752251};
        for (int k = 0; k < want.length; k++) {
            x.knock(2);
            c.due("behind " + (k + 1), x.trace(), want[k]);
        }
        for (int h : NO_HOUSE) {
            x.tell(h);
            x.knock(h);
        }
        c.due("as it was", x.trace(), want[want.length - 1]);
        int t = x.trace();
        for (int k = 0; k < 300; k++) {
            x.tell(2);
            t = left(t, 3, 2, 1, 1);
        }
        c.due("behind 300 more", x.trace(), t);
    }

    /** "at most 512 calls": the last of them is answered as the first ones are. */
    private static void theLastCall() {
        c.promise(30);
        BogTown x = Check.town(SEVEN);
        int calls = 1 + 44 + 1;
        int t = 0;
        for (; calls < 511; calls++) {
            c.due("call " + (calls + 1), x.knock(calls % 7), LETTERS.charAt(calls % 7) == 'p' ? 40 : calls % 7);
            t = left(t, LETTERS.charAt(calls % 7) == 'p' ? 5 : 4);
        }
        c.due("the 512th", x.trace(), t);
    }

    /** Makes fault() one of 1 .. 4. */
    private static void come(BogTown x, int fault) {
        x.lose(3);
        switch (fault) {
            case 1: x.put(3, 0, 0); break;
            case 2: x.as(0, 2); break;
            case 3: x.put(0, 60, 0); break;
            default: x.sheet(3, 0, -1); break;
        }
        c.due("came to", x.fault(), fault);
    }

    private static void behind(String call, BogTown x, long got, long want, int fault) {
        c.due(call, got, want);
        c.due("fault behind " + call, x.fault(), fault);
        c.due("and again", x.fault(), fault);
    }

    /** "0: it came to none, or was refused (0 ahead of any)": of each call that names one. */
    private static void fault() {
        c.promise(31);
        c.due("ahead of any", new BogTown().fault(), 0);
        for (int f = 1; f <= 4; f++) {
            BogTown x = Check.town(SEVEN);
            come(x, f);
            behind("as", x, x.as(0, 0), 1, 0);
            come(x, f);
            behind("as, UNKNOWN", x, x.as(7, 0), UNKNOWN, 0);
            come(x, f);
            behind("as, OUTSIDE", x, x.as(0, 3), OUTSIDE, 0);
            come(x, f);
            behind("put", x, x.put(0, 0, 't'), 1, 0);
            come(x, f);
            behind("put, UNKNOWN", x, x.put(4, 0, 0), UNKNOWN, 0);
            come(x, f);
            behind("cell", x, x.cell(0, 0, 0), 't', 0);
            come(x, f);
            behind("cell, UNKNOWN", x, x.cell(4, 0, 0), BogTown.LOST, 0);
            come(x, f);
            behind("cell, OUTSIDE", x, x.cell(0, 0, 3), BogTown.LOST, 0);
            come(x, f);
            behind("copy", x, x.copy(0, 0, 0, 0, 0), 0, 0);
            come(x, f);
            behind("copy, UNKNOWN", x, x.copy(0, 0, 4, 0, 0), UNKNOWN, 0);
            come(x, f);
            behind("sheet", x, x.sheet(3, 2, 0), 1, 0);
            come(x, f);
            behind("sheet, UNKNOWN", x, x.sheet(4, 0, 0), UNKNOWN, 0);
            come(x, f);
            behind("sheet, OUTSIDE", x, x.sheet(3, 0, 61), OUTSIDE, 0);
            come(x, f);
            behind("town, UNKNOWN", x, x.town(4, 0, 0, 0), UNKNOWN, 0);
            come(x, f);
            behind("town, OUTSIDE", x, x.town(0, 3, 0, 0), OUTSIDE, 0);
            come(x, f);
            behind("town, not taken", x, x.town(0, 0, 0, 0), -100, 0);
            come(x, f);
            behind("town", x, x.town(0, 0, 0, 44), 7, 0);
        }
    }

    /** Every call that names no FAULTS leaves each of them, answered or refused. */
    private static void faultsThatStay() {
        c.promise(31);
        for (int f = 0; f <= 4; f++) {
            BogTown x = Check.town(SEVEN);
            if (f > 0) {
                come(x, f);
            }
            x.guest(1, 0, 0);
            for (int n = -1; n < 2; n++) {
                x.ofHouse(n, n);
                x.guest(n, 0, 0);
                x.ofGuest(n, n);
                x.lodge(n, n);
                x.depth(n, n);
                x.reach(n, n);
                x.planks(n - 1);
                x.under(n);
                x.open(n, n);
                x.lodgings(n, n);
                x.feast(n, n, n);
                x.way(n, n, n);
                x.reading(n, n, n);
                x.back(n);
                x.right();
                x.unseen(n);
                x.piles(n);
                x.settles();
                x.after(n, n);
                x.lose(n);
                x.tell(n);
                x.knock(n);
                x.trace();
                x.fault();
                x.many(n);
                c.due("FAULT " + f + " stays", x.fault(), f);
            }
        }
    }

    /** "0 HOUSES, 1 STEP, 2 GUESTS, 3 READINGS (0 all without a TOWN)". */
    private static void many() {
        c.promise(32);
        BogTown x = new BogTown();
        x.sheet(0, 0, 60);
        x.guest(1, 0, 0);
        x.reading(0, 0, 0);
        x.town(0, 0, 0, 60);
        for (int what = 0; what < 4; what++) {
            c.due("without a TOWN, " + what, x.many(what), 0);
        }
        for (int what : new int[] {MIN, -9, -1, 4, 5, MAX}) {
            c.due("no what " + what, x.many(what), OUTSIDE);
        }
        for (int step = 0; step <= 9; step++) {
            for (int houses = 2; houses <= 7; houses++) {
                BogTown y = Check.town("t" + step + SEVEN.substring(2, 2 + 6 * houses));
                c.due("HOUSES", y.many(0), houses);
                c.due("STEP", y.many(1), step);
                c.due("GUESTS", y.many(2), 0);
                c.due("READINGS", y.many(3), 0);
                c.due("no what", y.many(4), OUTSIDE);
                c.due("no what", y.many(-1), OUTSIDE);
            }
        }
        BogTown z = Check.town(SEVEN);
        for (int k = 1; k <= 11; k++) {
            z.guest(1, 0, 0);
            z.reading(0, 0, 0);
            c.due("GUESTS", z.many(2), Math.min(k, 8));
            c.due("READINGS", z.many(3), Math.min(k, 10));
        }
        c.due("none left", z.back(10), 0);
        c.due("READINGS", z.many(3), 0);
        c.due("GUESTS", z.many(2), 8);
    }

    public static void main(String[] args) {
        tell();
        knock();
        as();
        trace();
        theLastCall();
        fault();
        faultsThatStay();
        many();
        c.end();
    }
}
