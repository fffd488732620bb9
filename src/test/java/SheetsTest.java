/** Promises 22 to 26: sheet, lose, put, cell, copy. */
public final class SheetsTest {
    private static final Check c = new Check();

    private static void sheetAndLose() {
        c.promise(22);
        BogTown x = new BogTown();
        for (int k = 0; k < 4; k++) {
            c.due("sheet " + k, x.sheet(k, k % 3, 60), 1);
            c.due("0 at first", x.cell(k, 59, k % 3), 0);
        }
        x.put(1, 3, 7);
        x.put(1, 0, 7);
        c.due("no such sheet", x.sheet(4, 3, 61), BogTown.UNKNOWN);
        c.due("no such sheet", x.sheet(-1, 0, 1), BogTown.UNKNOWN);
        c.due("no such lane", x.sheet(1, 3, -1), BogTown.OUTSIDE);
        c.due("no such lane", x.sheet(1, -1, 1), BogTown.OUTSIDE);
        c.due("too long", x.sheet(1, 0, 61), BogTown.OUTSIDE);
        c.due("refused: no FAULT", x.fault(), 0);
        c.due("below 0", x.sheet(1, 0, -1), -14);
        c.due("SIZE", x.fault(), 4);
        c.due("below 0", x.sheet(1, 0, Integer.MIN_VALUE), -14);
        c.due("it has what it had", x.cell(1, 3, 1), 7);
        c.due("a new row", x.sheet(1, 1, 5), 1);
        c.due("no FAULT", x.fault(), 0);
        c.due("0 again", x.cell(1, 3, 1), 0);
        c.due("0 again", x.cell(1, 0, 1), 0);
        c.due("shorter", x.cell(1, 5, 1), BogTown.LOST);
        c.due("a row of none", x.sheet(1, 2, 0), 1);
        c.due("no cell", x.put(1, 0, 1), -13);
        c.promise(23);
        c.due("FAULT stays", x.lose(4), BogTown.UNKNOWN);
        c.due("INDEX still", x.fault(), 3);
        c.due("no such sheet", x.lose(-1), BogTown.UNKNOWN);
        c.due("it had a row of none", x.lose(1), 1);
        c.due("it had nothing", x.lose(1), 0);
        c.due("INDEX still", x.fault(), 3);
        c.due("nothing", x.put(1, 0, 1), -11);
        c.due("others have theirs", x.put(2, 0, 1), 1);
    }

    private static void putAndCell() {
        c.promise(24);
        BogTown x = new BogTown();
        long[][] cut = {{-1, 44, 0, -128, 127}, {-1, 300, 0, -32640, 32639}, {-1, 300, 65536, 98432, 98175}};
        int[] v = {-1, 300, 65536, 98432, 98175};
        for (int lane = 0; lane < 3; lane++) {
            x.sheet(lane, lane, 5);
            for (int i = 0; i < 5; i++) {
                c.due("put " + v[i], x.put(lane, i, v[i]), 1);
                c.due("cut to lane " + lane, x.cell(lane, i, lane), cut[lane][i]);
            }
            c.due("beyond", x.put(lane, 5, 1), -13);
            c.due("INDEX", x.fault(), 3);
            c.due("below", x.put(lane, -1, 1), -13);
            c.due("right again", x.put(lane, 0, 1), 1);
            c.due("no FAULT", x.fault(), 0);
        }
        c.due("nothing", x.put(3, -1, 1), -11);
        c.due("NULL", x.fault(), 1);
        c.due("no such sheet", x.put(4, 0, 1), BogTown.UNKNOWN);
        c.due("no FAULT", x.fault(), 0);
        c.due("no such sheet", x.put(-1, 0, 1), BogTown.UNKNOWN);
        c.promise(25);
        c.due("no such sheet", x.cell(4, 0, 0), BogTown.LOST);
        c.due("refused: no FAULT", x.fault(), 0);
        c.due("another lane ahead of INDEX", x.cell(0, 9, 1), BogTown.LOST);
        c.due("CAST", x.fault(), 2);
        c.due("no such lane", x.cell(0, 0, 3), BogTown.LOST);
        c.due("refused: no FAULT", x.fault(), 0);
        c.due("nothing is no CAST", x.cell(3, 0, 2), BogTown.LOST);
        c.due("NULL", x.fault(), 1);
        c.due("no such lane", x.cell(0, 0, -1), BogTown.LOST);
        c.due("refused: no FAULT", x.fault(), 0);
        c.due("beyond", x.cell(0, 5, 0), BogTown.LOST);
        c.due("INDEX", x.fault(), 3);
        c.due("below", x.cell(0, -1, 0), BogTown.LOST);
        c.due("a cell", x.cell(0, 1, 0), 44);
        c.due("no FAULT", x.fault(), 0);
    }

    private static void fill(BogTown x, int k, int lane, int n) {
        x.sheet(k, lane, n);
        for (int i = 0; i < n; i++) {
            x.put(k, i, i + 1);
        }
    }

    private static void row(String what, BogTown x, int k, int... want) {
        for (int i = 0; i < want.length; i++) {
            c.due(what + ", cell " + i, x.cell(k, i, 1), want[i]);
        }
    }

    private static void copy() {
        c.promise(26);
        BogTown x = new BogTown();
        fill(x, 0, 1, 5);
        fill(x, 1, 1, 3);
        fill(x, 2, 2, 3);
        c.due("to another", x.copy(0, 3, 1, 1, 2), 2);
        row("to another", x, 1, 1, 4, 5);
        c.due("onto itself, on", x.copy(0, 0, 0, 1, 4), 4);
        row("as they were", x, 0, 1, 1, 2, 3, 4);
        c.due("onto itself, back", x.copy(0, 2, 0, 0, 3), 3);
        row("as they were", x, 0, 2, 3, 4, 3, 4);
        c.due("none", x.copy(0, 5, 1, 3, 0), 0);
        c.due("no FAULT", x.fault(), 0);
        c.due("no such sheet", x.copy(4, -1, 3, 0, 1), BogTown.UNKNOWN);
        c.due("no such sheet", x.copy(3, -1, 4, 0, 1), BogTown.UNKNOWN);
        c.due("no such sheet", x.copy(-1, 0, 0, 0, 1), BogTown.UNKNOWN);
        c.due("no such sheet", x.copy(0, 0, -1, 0, 1), BogTown.UNKNOWN);
        c.due("the first has nothing", x.copy(3, -1, 0, 0, 1), -11);
        c.due("NULL", x.fault(), 1);
        c.due("the other has nothing", x.copy(0, -1, 3, 0, 1), -11);
        c.due("unlike lanes", x.copy(0, -1, 2, 0, 1), -12);
        c.due("CAST", x.fault(), 2);
        c.due("i below 0", x.copy(0, -1, 1, 0, 1), -13);
        c.due("INDEX", x.fault(), 3);
        c.due("j below 0", x.copy(0, 0, 1, -1, 1), -13);
        c.due("n below 0", x.copy(0, 0, 1, 0, -1), -13);
        c.due("beyond the first", x.copy(1, 2, 0, 0, 2), -13);
        c.due("beyond the other", x.copy(0, 0, 1, 2, 2), -13);
        c.due("i beyond, none taken", x.copy(0, 6, 1, 0, 0), -13);
        c.due("j beyond, none taken", x.copy(0, 0, 1, 4, 0), -13);
        c.due("far beyond", x.copy(0, 1, 1, 1, Integer.MAX_VALUE), -13);
        c.due("far beyond", x.copy(0, Integer.MAX_VALUE, 1, 1, 1), -13);
        row("nothing changed", x, 0, 2, 3, 4, 3, 4);
        row("nothing changed", x, 1, 1, 4, 5);
    }

    public static void main(String[] args) {
        sheetAndLose();
        putAndCell();
        copy();
        c.end();
    }
}
