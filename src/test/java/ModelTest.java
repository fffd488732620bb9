import java.util.ArrayList;
import java.util.List;
import java.util.Random;

/** Holds BogTown against Model over runs of calls that the same seeds always make alike. */
public final class ModelTest {
    private static final int RUNS = 700, CALLS = 512, SHOWN = 8;

    private final Random any;
    private final BogTown x = new BogTown();
    private final Model m = new Model();
    private final List<String> told = new ArrayList<>();
    private boolean wrong = false;
    private int made = 0;

    private ModelTest(long seed) {
        any = new Random(seed);
    }

    private void same(String call, long got, long want) {
        made++;
        told.add(call + " = " + got);
        if (got != want) {
            wrong = true;
            System.out.println("not alike: " + call + " answered " + got + ", the model " + want);
            for (int i = Math.max(0, told.size() - SHOWN); i < told.size(); i++) {
                System.out.println("    " + told.get(i));
            }
        }
    }

    /** A number of least .. most, now and then one that is beyond, or far beyond. */
    private int about(int least, int most) {
        int c = any.nextInt(40);
        if (c == 0) return least - 1;
        if (c == 1) return most + 1;
        if (c == 2) return any.nextBoolean() ? Integer.MAX_VALUE : Integer.MIN_VALUE;
        return least + any.nextInt(Math.max(1, most - least + 1));
    }

    private int house() {
        return about(0, Math.max(0, m.many(0) - 1));
    }

    private int guestNumber() {
        return about(0, Math.max(0, m.many(2) - 1));
    }

    private int digit(int least) {
        return '0' + least + any.nextInt(10 - least);
    }

    /** Mostly a right text; else one that is cut, has a wrong code, or an eighth house. */
    private int[] text() {
        int houses = any.nextInt(12) == 0 ? 1 + any.nextInt(9) : 2 + any.nextInt(6);
        int[] t = new int[2 + 6 * houses];
        boolean soft = any.nextBoolean();
        t[0] = 't';
        t[1] = digit(0);
        for (int h = 0; h < houses; h++) {
            int p = 2 + 6 * h;
            t[p] = ';';
            t[p + 1] = "hip".charAt(any.nextInt(3));
            t[p + 2] = soft ? '1' + any.nextInt(2) : digit(1);
            t[p + 3] = digit(1);
            t[p + 4] = digit(0);
            t[p + 5] = digit(1);
        }
        if (any.nextInt(6) == 0) {
            t[any.nextInt(t.length)] = any.nextInt(128);
        }
        return t;
    }

    private void writeTown() {
        int[] t = text();
        int n = Math.min(60, t.length);
        int k = any.nextInt(4);
        int lane = any.nextInt(3);
        int from = any.nextInt(Math.min(4, 61 - n));
        same("sheet " + k + " " + lane, x.sheet(k, lane, from + n), m.sheet(k, lane, from + n));
        for (int i = 0; i < n; i++) {
            same("put " + (char) t[i], x.put(k, from + i, t[i]), m.put(k, from + i, t[i]));
        }
        int taken = any.nextInt(8) == 0 ? any.nextInt(n + 1) : n;
        same("town", x.town(k, lane, from, taken), m.town(k, lane, from, taken));
    }

    private void change() {
        int g = guestNumber();
        switch (any.nextInt(4)) {
            case 0: {
                int w = about(1, 30);
                int first = about(0, 49);
                int last = any.nextInt(8) == 0 ? about(0, 49) : about(Math.min(49, Math.max(0, first)), 49);
                same("guest " + w + " " + first + " " + last, x.guest(w, first, last), m.guest(w, first, last));
                break;
            }
            default: {
                int h = any.nextInt(9) == 0 ? -9 : house();
                same("lodge " + g + " " + h, x.lodge(g, h), m.lodge(g, h));
                break;
            }
        }
    }

    private void askNights() {
        int h = house();
        int d = about(0, 50);
        int w = about(0, 1);
        switch (any.nextInt(6)) {
            case 0: same("depth " + h + " " + d, x.depth(h, d), m.depth(h, d)); break;
            case 1: same("reach " + h + " " + d, x.reach(h, d), m.reach(h, d)); break;
            case 2: d = about(-1, 50); same("planks " + d, x.planks(d), m.planks(d)); break;
            case 3: same("under " + w, x.under(w), m.under(w)); break;
            case 4: same("open " + h + " " + w, x.open(h, w), m.open(h, w)); break;
            default: same("planks -1", x.planks(-1), m.planks(-1)); break;
        }
    }

    private void askPlans() {
        int h = house();
        int to = house();
        switch (any.nextInt(10)) {
            case 0: {
                // The model is slow with four guests in seven houses: seldom so many.
                int k = any.nextInt(6) == 0 ? about(1, 4) : about(1, 2);
                int q = about(-1, Math.max(0, Math.min(3, k - 1)));
                same("lodgings " + k + " " + q, x.lodgings(k, q), m.lodgings(k, q));
                break;
            }
            case 1: case 2: case 3: case 4: {
                int w = any.nextBoolean() ? about(1, 300) : about(1, 20);
                int n = about(0, 49);
                same("feast " + h + " " + w + " " + n, x.feast(h, w, n), m.feast(h, w, n));
                break;
            }
            default: {
                int d = about(0, 50);
                same("way " + h + " " + to + " " + d, x.way(h, to, d), m.way(h, to, d));
                break;
            }
        }
    }

    private void askReadings() {
        int w = about(0, 1);
        switch (any.nextInt(8)) {
            case 0: case 1: case 2: {
                int h = house();
                int d = about(0, 50);
                int is = m.depth(h, d);
                int v = any.nextInt(3) == 0 ? about(0, 999999) : is + (any.nextInt(4) == 0 ? any.nextInt(200) : 0);
                same("reading " + h + " " + d + " " + v, x.reading(h, d, v), m.reading(h, d, v));
                break;
            }
            case 3: {
                int k = about(0, m.many(3));
                same("back " + k, x.back(k), m.back(k));
                break;
            }
            case 4: same("right", x.right(), m.right()); break;
            case 5: case 6: same("unseen " + w, x.unseen(w), m.unseen(w)); break;
            default: same("piles " + w, x.piles(w), m.piles(w)); break;
        }
    }

    private void askRents() {
        int g = guestNumber();
        int r = any.nextBoolean() ? about(0, 50) : about(0, 3);
        if (any.nextBoolean()) {
            same("settles", x.settles(), m.settles());
        } else {
            same("after " + g + " " + r, x.after(g, r), m.after(g, r));
        }
    }

    private void askSheets() {
        int k = about(0, 3);
        int other = about(0, 3);
        int lane = about(0, 2);
        int i = about(0, 12);
        int j = about(0, 12);
        int n = about(0, 12);
        switch (any.nextInt(7)) {
            case 0: n = about(0, 60); same("sheet " + k + " " + lane + " " + n, x.sheet(k, lane, n), m.sheet(k, lane, n)); break;
            case 1: same("lose " + k, x.lose(k), m.lose(k)); break;
            case 2: case 3: {
                int v = any.nextBoolean() ? any.nextInt() : about(-200, 200);
                same("put " + k + " " + i + " " + v, x.put(k, i, v), m.put(k, i, v));
                break;
            }
            case 4: same("cell " + k + " " + i + " " + lane, x.cell(k, i, lane), m.cell(k, i, lane)); break;
            case 5: same("copy " + k + " " + i + " " + other + " " + j + " " + n, x.copy(k, i, other, j, n), m.copy(k, i, other, j, n)); break;
            default: same("town " + k + " " + lane + " " + i + " " + n, x.town(k, lane, i, n), m.town(k, lane, i, n)); break;
        }
    }

    private void askParts() {
        int h = house();
        int what = about(0, 4);
        switch (any.nextInt(6)) {
            case 0: same("tell " + h, x.tell(h), m.tell(h)); break;
            case 1: same("knock " + h, x.knock(h), m.knock(h)); break;
            case 2: what = about(0, 2); same("as " + h + " " + what, x.as(h, what), m.as(h, what)); break;
            case 3: what = about(0, 3); same("many " + what, x.many(what), m.many(what)); break;
            case 4: same("ofHouse " + h + " " + what, x.ofHouse(h, what), m.ofHouse(h, what)); break;
            default: {
                int g = guestNumber();
                what = about(0, 3);
                same("ofGuest " + g + " " + what, x.ofGuest(g, what), m.ofGuest(g, what));
                break;
            }
        }
        same("trace", x.trace(), m.trace());
    }

    private boolean run() {
        while (made < CALLS - 70 && !wrong) {
            int c = any.nextInt(100);
            if (c < 2 || m.many(0) == 0 && c < 40) writeTown();
            else if (c < 45) change();
            else if (c < 60) askNights();
            else if (c < 70) askPlans();
            else if (c < 78) askReadings();
            else if (c < 81) askRents();
            else if (c < 90) askSheets();
            else askParts();
            same("fault", x.fault(), m.fault());
        }
        return !wrong;
    }

    public static void main(String[] args) {
        int bad = 0;
        for (int seed = 1; seed <= RUNS && bad < 3; seed++) {
            if (!new ModelTest(seed).run()) {
                System.out.println("  in the run of seed " + seed);
                bad++;
            }
        }
        System.out.println(RUNS + " runs against the model, " + bad + " not alike");
        if (bad != 0) {
            System.exit(1);
        }
    }
}
