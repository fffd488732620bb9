/** The edges that promises 1 to 3 name: a new object, town, ofHouse. */
public final class TownEdgesTest {
    private static final int UNKNOWN = BogTown.UNKNOWN, OUTSIDE = BogTown.OUTSIDE, STATE = BogTown.STATE,
        NONE = BogTown.NONE;
    private static final int MIN = Integer.MIN_VALUE, MAX = Integer.MAX_VALUE;
    private static final int[] NO_HOUSE = {MIN, -9, -2, -1, 0, 1, 6, 7, MAX};
    private static final String TWO = "t3;h3521;i2413";
    private static final String SEVEN = "t0;h1101;i1111;p1121;h9999;i2345;p5432;h1209";
    private static final Check c = new Check();

    /** Promise 1, "No TOWN (no HOUSES)": whatever number a HOUSE, a GUEST is asked by. */
    private static void noHouses() {
        c.promise(1);
        BogTown x = new BogTown();
        for (int h : NO_HOUSE) {
            c.due("ofHouse " + h, x.ofHouse(h, 0), UNKNOWN);
            c.due("ofGuest " + h, x.ofGuest(h, 0), UNKNOWN);
            c.due("lodge " + h, x.lodge(h, NONE), UNKNOWN);
            c.due("depth " + h, x.depth(h, 0), UNKNOWN);
            c.due("reach " + h, x.reach(h, 0), UNKNOWN);
            c.due("open " + h, x.open(h, 0), BogTown.LOST);
            c.due("feast " + h, x.feast(h, 1, 0), UNKNOWN);
            c.due("way " + h, x.way(h, h, 0), UNKNOWN);
            c.due("reading " + h, x.reading(h, 0, 0), UNKNOWN);
            c.due("after " + h, x.after(h, 0), UNKNOWN);
            c.due("tell " + h, x.tell(h), UNKNOWN);
            c.due("knock " + h, x.knock(h), UNKNOWN);
            c.due("as " + h, x.as(h, 0), UNKNOWN);
            c.due("lodgings " + h, x.lodgings(h, -1), OUTSIDE);
        }
        c.due("guest", x.guest(1, 0, 0), STATE);
        c.due("planks", x.planks(0), STATE);
        c.due("under", x.under(0), STATE);
        c.due("unseen", x.unseen(0), STATE);
        c.due("piles", x.piles(0), STATE);
        c.due("settles", x.settles(), STATE);
        c.due("no READINGS are all so", x.right(), 1);
        c.due("none to take back", x.back(0), 0);
        c.due("one to take back", x.back(1), OUTSIDE);
        c.due("no body ran", x.trace(), 0);
    }

    /** Promise 1, "SHEETS have nothing": 0 and 3 and those between, and one beyond either end. */
    private static void sheetsHaveNothing() {
        c.promise(1);
        BogTown x = new BogTown();
        c.due("fault ahead of any", x.fault(), 0);
        for (int k = 0; k < 4; k++) {
            c.due("put " + k, x.put(k, 0, 1), -11);
            c.due("town " + k, x.town(k, 0, 0, 0), -11);
            c.due("copy " + k, x.copy(k, 0, k, 0, 0), -11);
            for (int lane = 0; lane < 3; lane++) {
                c.due("cell " + k, x.cell(k, 0, lane), BogTown.LOST);
                c.due("NULL", x.fault(), 1);
            }
            c.due("lose " + k, x.lose(k), 0);
        }
        c.due("a SHEET below", x.lose(-1), UNKNOWN);
        c.due("a SHEET above", x.lose(4), UNKNOWN);
    }

    /** Two objects have nothing in common. */
    private static void twoObjects() {
        c.promise(1);
        BogTown x = Check.town(SEVEN);
        x.guest(30, 0, 49);
        x.lodge(0, 3);
        x.reading(0, 0, 1);
        x.tell(0);
        x.as(0, 2);
        BogTown y = new BogTown();
        for (int what = 0; what < 4; what++) {
            c.due("many " + what, y.many(what), 0);
        }
        c.due("trace", y.trace(), 0);
        c.due("fault", y.fault(), 0);
        c.due("lose", y.lose(0), 0);
        c.due("the first has its own", x.many(0), 7);
    }

    /** Part 1, "2 to 7 HOUSES", "how many codes there are, if it just ends too soon". */
    private static void howManyCodes() {
        c.promise(2);
        for (int n = 0; n <= 44; n++) {
            BogTown x = new BogTown();
            boolean whole = n >= 14 && (n - 2) % 6 == 0;
            Check.write(x, 0, 0, SEVEN);
            c.due(n + " codes", x.town(0, 0, 0, n), whole ? (n - 2) / 6 : -100 - n);
            c.due(n + " codes, HOUSES", x.many(0), whole ? (n - 2) / 6 : 0);
            c.due("no FAULT", x.fault(), 0);
        }
    }

    /** Part 1, "the ; of an eighth HOUSE": and any other code there. */
    private static void anEighthHouse() {
        c.promise(2);
        BogTown x = new BogTown();
        Check.write(x, 0, 0, SEVEN + ";h1111;h1111;h1");
        c.due("7 HOUSES", x.town(0, 0, 0, 44), 7);
        for (int n = 45; n <= 59; n++) {
            c.due("an eighth one, " + n, x.town(0, 0, 0, n), -144);
        }
        for (char code : new char[] {0, 't', 'h', '0', '9'}) {
            x.put(0, 44, code);
            c.due("code " + (int) code + " behind the seventh", x.town(0, 0, 0, 45), -144);
        }
        c.due("the TOWN stays", x.many(0), 7);
    }

    private static boolean goesOn(int place, int code) {
        if (place == 0) {
            return code == 116;
        }
        if (place == 1) {
            return code >= 48 && code <= 57;
        }
        switch ((place - 2) % 6) {
            case 0: return code == 59;
            case 1: return code == 104 || code == 105 || code == 112;
            case 4: return code >= 48 && code <= 57;
            default: return code >= 49 && code <= 57;
        }
    }

    /** Part 1, "the first code with which no TEXT goes on": each code of a byte at each place. */
    private static void eachCode() {
        c.promise(2);
        for (int place = 0; place < 44; place++) {
            BogTown x = null;
            for (int code = -128; code < 128; code++) {
                if (code % 128 == 0) {
                    x = new BogTown();
                    Check.write(x, 0, 0, SEVEN);
                }
                x.put(0, place, code);
                boolean whole = place >= 13 && (place - 1) % 6 == 0;
                int taken = whole ? (place - 1) / 6 : -100 - place - 1;
                int want = goesOn(place, code) ? taken : -100 - place;
                c.due("code " + code + " at " + place, x.town(0, 0, 0, place + 1), want);
            }
        }
    }

    /** The first of several wrong codes, though the TEXT ends too soon, too. */
    private static void theFirstOfSeveral() {
        c.promise(2);
        BogTown x = new BogTown();
        for (int place = 0; place < 13; place++) {
            Check.write(x, place % 4, 0, SEVEN.substring(0, place) + "?".repeat(13 - place));
            c.due("from " + place + " on", x.town(place % 4, 0, 0, 13), -100 - place);
        }
    }

    /** Part 6, "cut to its LANE": a code that is a t as a byte, as a short, is none as an int. */
    private static void codesThatAreCut() {
        c.promise(2);
        int[] codes = {116, 116 + 256, 116 - 256, 116 + 65536, 116 - 65536, 116 + (1 << 31)};
        int[] lanesThatTake = {3, 1, 1, 2, 2, 2};
        for (int k = 0; k < codes.length; k++) {
            BogTown x = new BogTown();
            for (int lane = 0; lane < 3; lane++) {
                Check.write(x, 3, lane, TWO);
                x.put(3, 0, codes[k]);
                boolean taken = lane < lanesThatTake[k];
                c.due("code " + codes[k] + " in lane " + lane, x.town(3, lane, 0, 14), taken ? 2 : -100);
            }
        }
    }

    /** "n cells of a SHEET from i on": at both ends of a row, and none of them at all. */
    private static void cellsFromIOn() {
        c.promise(2);
        for (int lane = 0; lane < 3; lane++) {
            BogTown x = new BogTown();
            x.sheet(2, lane, 60);
            for (int i = 0; i < 44; i++) {
                x.put(2, 16 + i, SEVEN.charAt(i));
            }
            c.due("to the last cell", x.town(2, lane, 16, 44), 7);
            c.due("a fault's place is from i on", x.town(2, lane, 15, 45), -100);
            c.due("one too soon", x.town(2, lane, 17, 43), -100);
            c.due("one beyond", x.town(2, lane, 16, 45), -13);
            c.due("one beyond", x.town(2, lane, 17, 44), -13);
            c.due("all of 60", x.town(2, lane, 0, 60), -100);
            c.due("61", x.town(2, lane, 0, 61), -13);
            c.due("the last cell alone", x.town(2, lane, 59, 1), -100);
            c.due("the one behind it", x.town(2, lane, 60, 1), -13);
            c.due("none at 0", x.town(2, lane, 0, 0), -100);
            c.due("none at 60", x.town(2, lane, 60, 0), -100);
            c.due("none at 61", x.town(2, lane, 61, 0), -13);
            c.due("none at -1", x.town(2, lane, -1, 0), -13);
            c.due("the t alone", x.town(2, lane, 16, 1), -101);
            c.due("below 0", x.town(2, lane, 16, -1), -14);
            c.due("far below 0", x.town(2, lane, 16, MIN), -14);
            c.due("sums that wrap", x.town(2, lane, MAX, MAX), -13);
            c.due("sums that wrap", x.town(2, lane, 1, MAX), -13);
            c.due("sums that wrap", x.town(2, lane, MIN, MAX), -13);
            x.sheet(2, lane, 0);
            c.due("an empty row", x.town(2, lane, 0, 0), -100);
            c.due("an empty row, one", x.town(2, lane, 0, 1), -13);
            c.due("an empty row, behind it", x.town(2, lane, 1, 0), -13);
            c.due("the TOWN stays", x.many(0), 7);
        }
    }

    /** Part 1, "A TEXT that is taken makes all anew: no GUESTS, no READINGS": the same one, too. */
    private static void allAnew() {
        c.promise(2);
        BogTown x = Check.town(TWO);
        for (int again = 0; again < 3; again++) {
            for (int g = 0; g < 8; g++) {
                c.due("GUEST " + g, x.guest(30, 0, 49), g);
            }
            c.due("FULL", x.guest(30, 0, 49), BogTown.FULL);
            c.due("a BED of the first", x.lodge(0, 1), NONE);
            c.due("a BED of the last", x.lodge(7, 0), NONE);
            for (int k = 0; k < 10; k++) {
                c.due("READING " + k, x.reading(0, 0, 1), k);
            }
            c.due("FULL", x.reading(0, 0, 1), BogTown.FULL);
            c.due("not so", x.right(), 0);
            c.due("sunk", x.depth(0, 1), 180);
            c.due("he stays", x.after(7, 50), 0);
            c.due("UNDER", x.under(0), 1);
            c.due("taken", x.town(0, 0, 0, 14), 2);
            c.due("no GUESTS", x.many(2), 0);
            c.due("no READINGS", x.many(3), 0);
            c.due("so", x.right(), 1);
            c.due("none to lodge", x.lodgings(1, -1), OUTSIDE);
            c.due("none to ask after", x.after(7, 50), UNKNOWN);
            c.due("none would move", x.settles(), 0);
            c.due("never UNDER", x.under(0), NONE);
            for (int d = 0; d <= 50; d += 25) {
                c.due("at first 0", x.depth(0, d), 0);
                c.due("at first 0", x.depth(1, d), 0);
            }
        }
    }

    /** A TEXT that is not taken leaves all as it was, its FIRST FAULT behind right HOUSES even. */
    private static void notTaken() {
        c.promise(2);
        BogTown x = Check.town(TWO);
        x.guest(10, 0, 9);
        x.lodge(0, 1);
        c.due("an eighth HOUSE", Check.read(x, SEVEN + ";"), -144);
        c.due("a wrong DOOR", Check.read(x, "t9;p9999;p9990"), -113);
        c.due("HOUSES", x.many(0), 2);
        c.due("STEP", x.many(1), 3);
        int[][] told = {{0, 3, 5, 2, 1}, {1, 2, 4, 1, 3}};
        for (int h = 0; h < 2; h++) {
            for (int what = 0; what < 5; what++) {
                c.due("ofHouse " + h + " " + what, x.ofHouse(h, what), told[h][what]);
            }
        }
        c.due("lodged still", x.ofGuest(0, 3), 1);
        c.due("as deep", x.depth(1, 1), 35);
    }

    /** Promise 3: the least and the greatest of each number, and no HOUSE beyond those there are. */
    private static void ofHouse() {
        c.promise(3);
        BogTown x = Check.town("t0;h1101;p9999");
        int[][] told = {{0, 1, 1, 0, 1}, {2, 9, 9, 9, 9}};
        for (int h = 0; h < 2; h++) {
            for (int what = 0; what < 5; what++) {
                c.due("ofHouse " + h + " " + what, x.ofHouse(h, what), told[h][what]);
            }
            for (int what : new int[] {MIN, -1, 5, MAX}) {
                c.due("ofHouse " + h + " " + what, x.ofHouse(h, what), OUTSIDE);
            }
        }
        for (int h : new int[] {MIN, -9, -1, 2, 7, MAX}) {
            c.due("no HOUSE " + h, x.ofHouse(h, 0), UNKNOWN);
            c.due("UNKNOWN ahead of OUTSIDE", x.ofHouse(h, 5), UNKNOWN);
        }
        c.due("STEP 0", x.many(1), 0);
        Check.read(x, "t9" + SEVEN.substring(2));
        c.due("STEP 9", x.many(1), 9);
        c.due("the seventh", x.ofHouse(6, 4), 9);
        c.due("no eighth", x.ofHouse(7, 4), UNKNOWN);
        c.due("an INN", x.ofHouse(4, 0), 1);
    }

    public static void main(String[] args) {
        noHouses();
        sheetsHaveNothing();
        twoObjects();
        howManyCodes();
        anEighthHouse();
        eachCode();
        theFirstOfSeveral();
        codesThatAreCut();
        cellsFromIOn();
        allAnew();
        notTaken();
        ofHouse();
        c.end();
    }
}
