/** Promises 1 to 3: a new object, town, ofHouse. */
public final class TownTest {
    private static final String TWO = "t3;h3521;i2413";
    private static final String SEVEN = "t0;h1101;i1111;p1121;h9999;i2345;p5432;h1209";
    private static final Check c = new Check();

    private static void aNewObject() {
        c.promise(1);
        BogTown x = new BogTown();
        for (int what = 0; what < 4; what++) {
            c.due("many " + what, x.many(what), 0);
            c.due("lose " + what, x.lose(what), 0);
        }
        c.due("trace", x.trace(), 0);
        c.due("fault", x.fault(), 0);
        c.due("ofHouse", x.ofHouse(0, 0), BogTown.UNKNOWN);
        c.due("ofGuest", x.ofGuest(0, 0), BogTown.UNKNOWN);
        c.due("put", x.put(0, 0, 1), -11);
        c.due("lodge", x.lodge(0, 0), BogTown.UNKNOWN);
        c.due("depth", x.depth(0, 0), BogTown.UNKNOWN);
        c.due("reach", x.reach(0, 0), BogTown.UNKNOWN);
        c.due("open", x.open(0, 0), BogTown.LOST);
        c.due("lodgings", x.lodgings(1, -1), BogTown.OUTSIDE);
        c.due("feast", x.feast(0, 1, 0), BogTown.UNKNOWN);
        c.due("way", x.way(0, 0, 0), BogTown.UNKNOWN);
        c.due("reading", x.reading(0, 0, 0), BogTown.UNKNOWN);
        c.due("back", x.back(0), 0);
        c.due("right", x.right(), 1);
        c.due("after", x.after(0, 0), BogTown.UNKNOWN);
        c.due("tell", x.tell(0), BogTown.UNKNOWN);
        c.due("LOST", BogTown.LOST, Long.MIN_VALUE);
    }

    private static void textsThatAreTaken() {
        c.promise(2);
        BogTown x = new BogTown();
        c.due("two houses", Check.read(x, TWO), 2);
        c.due("STEP", x.many(1), 3);
        c.due("seven houses", Check.read(x, SEVEN), 7);
        c.due("STEP 0", x.many(1), 0);
        c.due("houses", x.many(0), 7);
        for (int lane = 0; lane < 3; lane++) {
            Check.write(x, 3, lane, "??" + TWO + ";?");
            c.due("from a cell on, lane " + lane, x.town(3, lane, 2, TWO.length()), 2);
            c.due("no FAULT", x.fault(), 0);
            c.due("one code more", x.town(3, lane, 2, TWO.length() + 1), -115);
            c.due("a wrong letter", x.town(3, lane, 2, TWO.length() + 2), -115);
        }
    }

    private static void firstFaults() {
        BogTown x = Check.town(SEVEN);
        for (int n = 0; n < 14; n++) {
            c.due("ends too soon, " + n, Check.read(x, TWO.substring(0, n)), -100 - n);
        }
        for (int n = 15; n < 20; n++) {
            c.due("ends in a house, " + n, Check.read(x, SEVEN.substring(0, n)), -100 - n);
        }
        for (int place = 0; place < SEVEN.length(); place++) {
            String wrong = SEVEN.substring(0, place) + "x" + SEVEN.substring(place + 1);
            c.due("wrong at " + place, Check.read(x, wrong), -100 - place);
        }
        c.due("an eighth house", Check.read(x, SEVEN + ";h1111"), -144);
        c.due("a first fault of two", Check.read(x, "t1;x1101;h0101"), -103);
        c.due("no BEDS", Check.read(x, "t3;h0521;i2413"), -104);
        c.due("no GIVES", Check.read(x, "t3;h3021;i2413"), -105);
        c.due("no RISES is right", Check.read(x, "t3;h3501;i2413"), 2);
        c.due("no DOOR", Check.read(x, "t3;h3520;i2413"), -107);
        c.due("below the digits", Check.read(x, "t/;h3521;i2413"), -101);
        c.due("above the digits", Check.read(x, "t:;h3521;i2413"), -101);
        c.due("a great letter", Check.read(x, "T3;h3521;i2413"), -100);
        // 116 and 256 is a t as a byte alone.
        for (int lane = 0; lane < 3; lane++) {
            Check.write(x, 1, lane, TWO);
            x.put(1, 0, 116 + 256);
            c.due("a t cut to its lane " + lane, x.town(1, lane, 0, 14), lane == 0 ? 2 : -100);
        }
    }

    private static void wrongCalls() {
        BogTown x = Check.town(TWO);
        c.due("no such sheet", x.town(4, 3, -1, -1), BogTown.UNKNOWN);
        c.due("no such sheet", x.town(-1, 3, -1, -1), BogTown.UNKNOWN);
        c.due("no such lane", x.town(0, 3, -1, -1), BogTown.OUTSIDE);
        c.due("no such lane", x.town(0, -1, -1, -1), BogTown.OUTSIDE);
        c.due("refused: no FAULT", x.fault(), 0);
        c.due("another lane", x.town(0, 1, -1, -1), -12);
        c.due("CAST", x.fault(), 2);
        c.due("nothing is no CAST", x.town(1, 1, -1, -1), -11);
        c.due("NULL", x.fault(), 1);
        c.due("below 0", x.town(0, 0, -1, -1), -14);
        c.due("SIZE", x.fault(), 4);
        c.due("ahead of the cells", x.town(0, 0, -1, 1), -13);
        c.due("INDEX", x.fault(), 3);
        c.due("ahead of them, none taken", x.town(0, 0, -1, 0), -13);
        c.due("beyond them, none taken", x.town(0, 0, 15, 0), -13);
        c.due("beyond them", x.town(0, 0, 1, 14), -13);
        c.due("far beyond", x.town(0, 0, 1, Integer.MAX_VALUE), -13);
        c.due("far beyond", x.town(0, 0, Integer.MAX_VALUE, Integer.MAX_VALUE), -13);
        c.due("at the end, none taken", x.town(0, 0, 14, 0), -100);
        c.due("a wrong text: no FAULT", x.fault(), 0);
        c.due("the town is still there", x.many(0), 2);
    }

    private static void allAnew() {
        BogTown x = Check.town(TWO);
        x.guest(10, 0, 9);
        x.lodge(0, 1);
        x.reading(0, 1, 5);
        x.tell(0);
        c.due("sunk", x.depth(1, 1), 35);
        c.due("a wrong text", Check.read(x, "t3;h3521;i2419x"), -114);
        c.due("keeps guests", x.many(2), 1);
        c.due("keeps readings", x.many(3), 1);
        c.due("keeps depths", x.depth(1, 1), 35);
        c.due("a right one", Check.read(x, SEVEN), 7);
        c.due("no guests", x.many(2), 0);
        c.due("no readings", x.many(3), 0);
        c.due("not sunk", x.depth(1, 1), 0);
        c.due("TRACE stays", x.trace(), 1);
        c.due("the sheet stays", x.cell(0, 0, 0), 't');
        c.due("guests are numbered anew", x.guest(1, 0, 0), 0);
        c.due("not lodged", x.ofGuest(0, 3), BogTown.NONE);
        c.due("fewer houses", Check.read(x, TWO), 2);
        c.due("no third one", x.ofHouse(2, 0), BogTown.UNKNOWN);
    }

    private static void ofHouse() {
        c.promise(3);
        BogTown x = Check.town("t3;h3521;i2410;p9803".replace("2410", "2419"));
        int[][] told = {{0, 3, 5, 2, 1}, {1, 2, 4, 1, 9}, {2, 9, 8, 0, 3}};
        for (int h = 0; h < 3; h++) {
            for (int what = 0; what < 5; what++) {
                c.due("ofHouse " + h + " " + what, x.ofHouse(h, what), told[h][what]);
            }
            c.due("beyond", x.ofHouse(h, 5), BogTown.OUTSIDE);
            c.due("below", x.ofHouse(h, -1), BogTown.OUTSIDE);
        }
        c.due("no such house", x.ofHouse(3, 5), BogTown.UNKNOWN);
        c.due("no such house", x.ofHouse(-1, 0), BogTown.UNKNOWN);
    }

    public static void main(String[] args) {
        aNewObject();
        textsThatAreTaken();
        firstFaults();
        wrongCalls();
        allAnew();
        ofHouse();
        c.end();
    }
}
