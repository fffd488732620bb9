/** The edges that promises 22 to 26 name: sheet, lose, put, cell, copy. */
public final class SheetEdgesTest {
    private static final int UNKNOWN = BogTown.UNKNOWN, OUTSIDE = BogTown.OUTSIDE;
    private static final long LOST = BogTown.LOST;
    private static final int MIN = Integer.MIN_VALUE, MAX = Integer.MAX_VALUE;
    private static final int[] AROUND_SHEETS = {MIN, -1, 0, 1, 2, 3, 4, MAX};
    private static final int[] AROUND_LANES = {MIN, -1, 0, 1, 2, 3, MAX};
    private static final Check c = new Check();

    private static boolean isSheet(int k) {
        return k >= 0 && k <= 3;
    }

    private static boolean isLane(int lane) {
        return lane >= 0 && lane <= 2;
    }

    /** "SHEETS 0 .. 3", "a row of 0 .. 60 numbers", "LANE: 0, 1, 2": each with each, in the order told. */
    private static void rows() {
        c.promise(22);
        for (int k : AROUND_SHEETS) {
            BogTown x = new BogTown();
            for (int lane : AROUND_LANES) {
                for (int n : new int[] {MIN, -1, 0, 1, 59, 60, 61, MAX}) {
                    int want = !isSheet(k) ? UNKNOWN : !isLane(lane) || n > 60 ? OUTSIDE : n < 0 ? -14 : 1;
                    c.due("sheet(" + k + ", " + lane + ", " + n + ")", x.sheet(k, lane, n), want);
                    c.due("fault", x.fault(), want == -14 ? 4 : 0);
                }
            }
        }
    }

    /** How many cells there are: the last one is there, the one behind it is not. */
    private static void lengths() {
        c.promise(22);
        for (int lane = 0; lane < 3; lane++) {
            for (int n = 0; n <= 60; n++) {
                BogTown x = new BogTown();
                x.sheet(n % 4, lane, n);
                c.due("cell " + (n - 1) + " of " + n, x.cell(n % 4, n - 1, lane), n == 0 ? LOST : 0);
                c.due("cell " + n + " of " + n, x.cell(n % 4, n, lane), LOST);
                c.due("INDEX", x.fault(), 3);
            }
        }
    }

    /** "(0 at first)": whatever was there, a shorter row and nothing between them even. */
    private static void aNewRow() {
        c.promise(22);
        BogTown x = new BogTown();
        x.sheet(0, 2, 60);
        for (int i = 0; i < 60; i++) {
            x.put(0, i, -1);
        }
        x.sheet(0, 2, 5);
        x.lose(0);
        x.sheet(0, 1, 60);
        for (int i = 0; i < 60; i++) {
            c.due("cell " + i, x.cell(0, i, 1), 0);
        }
        c.due("of another LANE now", x.cell(0, 0, 2), LOST);
        c.due("CAST", x.fault(), 2);
        x.put(0, 59, 7);
        c.due("not taken", x.sheet(0, 1, 61), OUTSIDE);
        c.due("nor this", x.sheet(0, 1, -1), -14);
        c.due("as it was", x.cell(0, 59, 1), 7);
    }

    private static void lose() {
        c.promise(23);
        BogTown x = new BogTown();
        for (int k : AROUND_SHEETS) {
            c.due("nothing, " + k, x.lose(k), isSheet(k) ? 0 : UNKNOWN);
        }
        for (int k = 0; k < 4; k++) {
            x.sheet(k, k % 3, k * 20);
        }
        x.put(3, 60, 1);
        for (int k : AROUND_SHEETS) {
            c.due("a row, " + k, x.lose(k), isSheet(k) ? 1 : UNKNOWN);
            c.due("nothing again, " + k, x.lose(k), isSheet(k) ? 0 : UNKNOWN);
            c.due("it names no FAULTS", x.fault(), 3);
        }
        for (int k = 0; k < 4; k++) {
            c.due("NULL", x.put(k, 0, 1), -11);
        }
    }

    /** "what comes to a cell of it is cut to its LANE": around the ends of each LANE. */
    private static void cuts() {
        c.promise(24);
        int[] v = {MIN, MIN + 1, -65537, -65536, -32769, -32768, -32767, -257, -256, -129, -128, -127, -1, 0, 1,
            127, 128, 129, 255, 256, 257, 32767, 32768, 65535, 65536, 65537, MAX - 1, MAX};
        int[] bytes = {0, 1, -1, 0, -1, 0, 1, -1, 0, 127, -128, -127, -1, 0, 1,
            127, -128, -127, -1, 0, 1, -1, 0, -1, 0, 1, -2, -1};
        int[] shorts = {0, 1, -1, 0, 32767, -32768, -32767, -257, -256, -129, -128, -127, -1, 0, 1,
            127, 128, 129, 255, 256, 257, 32767, -32768, -1, 0, 1, -2, -1};
        int[][] want = {bytes, shorts, v};
        for (int lane = 0; lane < 3; lane++) {
            BogTown x = new BogTown();
            x.sheet(1, lane, 1);
            for (int k = 0; k < v.length; k++) {
                c.due("put " + v[k], x.put(1, 0, v[k]), 1);
                c.due(v[k] + " as of lane " + lane, x.cell(1, 0, lane), want[lane][k]);
            }
        }
    }

    /** "Cell i": the first and the last one, one ahead and one behind; of SHEETS with a row and without. */
    private static void cells() {
        for (int k : AROUND_SHEETS) {
            BogTown x = new BogTown();
            x.sheet(0, 0, 3);
            x.sheet(1, 1, 0);
            x.sheet(2, 2, 60);
            int size = k == 0 ? 3 : k == 2 ? 60 : 0;
            for (int i : new int[] {MIN, -1, 0, 2, 3, 59, 60, 61, MAX}) {
                c.promise(24);
                boolean there = i >= 0 && i < size;
                int put = !isSheet(k) ? UNKNOWN : k == 3 ? -11 : there ? 1 : -13;
                c.due("put(" + k + ", " + i + ")", x.put(k, i, 9), put);
                c.due("fault", x.fault(), put <= -11 ? -10 - put : 0);
                c.promise(25);
                for (int lane : AROUND_LANES) {
                    boolean refused = !isSheet(k) || !isLane(lane);
                    int fault = refused ? 0 : k == 3 ? 1 : k != lane ? 2 : there ? 0 : 3;
                    String call = "cell(" + k + ", " + i + ", " + lane + ")";
                    c.due(call, x.cell(k, i, lane), refused || fault != 0 ? LOST : 9);
                    c.due("fault of " + call, x.fault(), fault);
                }
            }
        }
    }

    /** Of two rows of three and of two cells: each i, j and n around their ends. */
    private static void copies() {
        c.promise(26);
        for (int lane = 0; lane < 3; lane++) {
            for (int i = -1; i <= 4; i++) {
                for (int j = -1; j <= 3; j++) {
                    for (int n = -1; n <= 4; n++) {
                        copied(lane, i, j, n);
                    }
                }
            }
        }
    }

    private static void copied(int lane, int i, int j, int n) {
        BogTown x = new BogTown();
        x.sheet(0, lane, 3);
        x.sheet(3, lane, 2);
        int[] from = {-1, 2, 3};
        int[] to = {7, 8};
        for (int p = 0; p < 3; p++) {
            x.put(0, p, from[p]);
        }
        for (int p = 0; p < 2; p++) {
            x.put(3, p, to[p]);
        }
        boolean there = i >= 0 && j >= 0 && n >= 0 && i + n <= 3 && j + n <= 2;
        String call = "copy(0, " + i + ", 3, " + j + ", " + n + ")";
        c.due(call, x.copy(0, i, 3, j, n), there ? n : -13);
        c.due("fault of " + call, x.fault(), there ? 0 : 3);
        for (int p = 0; p < 2; p++) {
            boolean taken = there && p >= j && p < j + n;
            c.due("cell " + p + " behind " + call, x.cell(3, p, lane), taken ? from[i + p - j] : to[p]);
        }
        for (int p = 0; p < 3; p++) {
            c.due("cell " + p + " it came from", x.cell(0, p, lane), from[p]);
        }
    }

    /** "(perhaps the same)", "as they were": within one row, to either side, the whole of it even. */
    private static void withinOneRow() {
        c.promise(26);
        for (int i = 0; i <= 5; i++) {
            for (int j = 0; j <= 5; j++) {
                for (int n = 0; n <= 5 - Math.max(i, j); n++) {
                    BogTown x = new BogTown();
                    x.sheet(2, 1, 5);
                    for (int p = 0; p < 5; p++) {
                        x.put(2, p, 10 + p);
                    }
                    String call = "copy(2, " + i + ", 2, " + j + ", " + n + ")";
                    c.due(call, x.copy(2, i, 2, j, n), n);
                    for (int p = 0; p < 5; p++) {
                        boolean taken = p >= j && p < j + n;
                        c.due("cell " + p + " behind " + call, x.cell(2, p, 1), taken ? 10 + i + p - j : 10 + p);
                    }
                }
            }
        }
        BogTown x = new BogTown();
        x.sheet(0, 0, 60);
        x.sheet(1, 0, 60);
        x.put(0, 0, 5);
        x.put(0, 59, 6);
        c.due("all of 60", x.copy(0, 0, 1, 0, 60), 60);
        c.due("the first", x.cell(1, 0, 0), 5);
        c.due("the last", x.cell(1, 59, 0), 6);
        c.due("61", x.copy(0, 0, 1, 0, 61), -13);
    }

    /** "UNKNOWN; FAULTS NULL (the first, the other), CAST": each pair of SHEETS, one of them with nothing. */
    private static void pairsOfSheets() {
        c.promise(26);
        for (int k : AROUND_SHEETS) {
            for (int other : AROUND_SHEETS) {
                BogTown x = new BogTown();
                for (int s = 0; s < 3; s++) {
                    x.sheet(s, s, 1);
                }
                boolean known = isSheet(k) && isSheet(other);
                int want = !known ? UNKNOWN : k == 3 || other == 3 ? -11 : k != other ? -12 : 1;
                int far = want == 1 ? -13 : want;
                c.due("copy(" + k + ", 0, " + other + ", 0, 1)", x.copy(k, 0, other, 0, 1), want);
                c.due("fault", x.fault(), want <= -11 ? -10 - want : 0);
                c.due("copy(" + k + ", -1, " + other + ", 9, MIN)", x.copy(k, -1, other, 9, MIN), far);
                c.due("fault", x.fault(), far <= -11 ? -10 - far : 0);
            }
        }
    }

    public static void main(String[] args) {
        rows();
        lengths();
        aNewRow();
        lose();
        cuts();
        cells();
        copies();
        withinOneRow();
        pairsOfSheets();
        c.end();
    }
}
