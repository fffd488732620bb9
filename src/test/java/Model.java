import java.util.ArrayList;
import java.util.Arrays;
import java.util.List;
import java.util.regex.Matcher;
import java.util.regex.Pattern;

/**
 * The document told a second time, in other words than src/main/java/BogTown.java: slow, without
 * anything kept from call to call. ModelTest holds the two against one another.
 */
final class Model {
    private static final int UNKNOWN = -1, OUTSIDE = -2, STATE = -3, FULL = -4, NONE = -9;
    private static final long LOST = Long.MIN_VALUE;
    private static final Pattern TEXT = Pattern.compile("t[0-9](;[hip][1-9][1-9][0-9][1-9]){2,7}");

    /** kind, beds, gives, rises, door. */
    private List<int[]> houses = new ArrayList<>();
    private int step = 0;
    /** weight, first, last, house. */
    private List<int[]> guests = new ArrayList<>();
    /** house, dawn, depth. */
    private List<int[]> readings = new ArrayList<>();
    private final Object[] sheets = new Object[4];
    private int trace = 0;
    private int fault = 0;

    private boolean noHouse(int h) {
        return h < 0 || h >= houses.size();
    }

    private static boolean out(int v, int least, int most) {
        return v < least || v > most;
    }

    private int fail(int f) {
        fault = f;
        return -10 - f;
    }

    // ---- sheets as the machine's own rows

    private static int laneOf(Object row) {
        return row instanceof byte[] ? 0 : row instanceof short[] ? 1 : 2;
    }

    private static int lengthOf(Object row) {
        return java.lang.reflect.Array.getLength(row);
    }

    private static int get(Object row, int i) {
        return java.lang.reflect.Array.getInt(row, i);
    }

    private static void set(Object row, int i, int v) {
        if (row instanceof byte[] b) {
            b[i] = (byte) v;
        } else if (row instanceof short[] s) {
            s[i] = (short) v;
        } else {
            ((int[]) row)[i] = v;
        }
    }

    int sheet(int k, int lane, int n) {
        fault = 0;
        if (out(k, 0, 3)) return UNKNOWN;
        if (out(lane, 0, 2) || n > 60) return OUTSIDE;
        if (n < 0) return fail(4);
        sheets[k] = lane == 0 ? new byte[n] : lane == 1 ? new short[n] : new int[n];
        return 1;
    }

    int lose(int k) {
        if (out(k, 0, 3)) return UNKNOWN;
        int had = sheets[k] == null ? 0 : 1;
        sheets[k] = null;
        return had;
    }

    int put(int k, int i, int v) {
        fault = 0;
        if (out(k, 0, 3)) return UNKNOWN;
        if (sheets[k] == null) return fail(1);
        if (i < 0 || i >= lengthOf(sheets[k])) return fail(3);
        set(sheets[k], i, v);
        return 1;
    }

    long cell(int k, int i, int lane) {
        fault = 0;
        if (out(k, 0, 3) || out(lane, 0, 2)) return LOST;
        Object row = sheets[k];
        if (row != null && laneOf(row) != lane) {
            fault = 2;
        } else if (row == null) {
            fault = 1;
        } else if (i < 0 || i >= lengthOf(row)) {
            fault = 3;
        }
        return fault != 0 ? LOST : get(row, i);
    }

    int copy(int k, int i, int other, int j, int n) {
        fault = 0;
        if (out(k, 0, 3) || out(other, 0, 3)) return UNKNOWN;
        if (sheets[k] == null || sheets[other] == null) return fail(1);
        if (laneOf(sheets[k]) != laneOf(sheets[other])) return fail(2);
        if (i < 0 || j < 0 || n < 0 || (long) i + n > lengthOf(sheets[k])
                || (long) j + n > lengthOf(sheets[other])) return fail(3);
        int[] as = new int[n];
        for (int c = 0; c < n; c++) as[c] = get(sheets[k], i + c);
        for (int c = 0; c < n; c++) set(sheets[other], j + c, as[c]);
        return n;
    }

    // ---- the town

    int town(int sheet, int lane, int i, int n) {
        fault = 0;
        if (out(sheet, 0, 3)) return UNKNOWN;
        if (out(lane, 0, 2)) return OUTSIDE;
        Object row = sheets[sheet];
        if (row != null && laneOf(row) != lane) return fail(2);
        if (row == null) return fail(1);
        if (n < 0) return fail(4);
        if (i < 0 || i > lengthOf(row) || (long) i + n > lengthOf(row)) return fail(3);
        StringBuilder read = new StringBuilder();
        for (int c = 0; c < n; c++) {
            int code = get(row, i + c);
            read.append(code >= 0 && code < 256 ? (char) code : '?');
        }
        String text = read.toString();
        for (int p = 0; p < n; p++) {
            Matcher m = TEXT.matcher(text.substring(0, p + 1));
            if (!m.matches() && !m.hitEnd()) return -100 - p;
        }
        if (!TEXT.matcher(text).matches()) return -100 - n;
        houses = new ArrayList<>();
        for (String part : text.substring(3).split(";")) {
            houses.add(new int[] {"hip".indexOf(part.charAt(0)), part.charAt(1) - '0',
                part.charAt(2) - '0', part.charAt(3) - '0', part.charAt(4) - '0'});
        }
        step = text.charAt(1) - '0';
        guests = new ArrayList<>();
        readings = new ArrayList<>();
        return houses.size();
    }

    int ofHouse(int h, int what) {
        if (noHouse(h)) return UNKNOWN;
        return out(what, 0, 4) ? OUTSIDE : houses.get(h)[what];
    }

    // ---- guests, nights

    int guest(int weight, int first, int last) {
        if (out(weight, 1, 30) || out(first, 0, 49) || out(last, 0, 49) || last < first) return OUTSIDE;
        if (houses.isEmpty()) return STATE;
        if (guests.size() == 8) return FULL;
        guests.add(new int[] {weight, first, last, NONE});
        return guests.size() - 1;
    }

    int ofGuest(int g, int what) {
        if (out(g, 0, guests.size() - 1)) return UNKNOWN;
        return out(what, 0, 3) ? OUTSIDE : guests.get(g)[what];
    }

    /** Whether a guest finds a bed in a house in each of his nights, with the others as told. */
    private boolean bed(List<int[]> all, int g, int h) {
        int[] me = all.get(g);
        for (int night = me[1]; night <= me[2]; night++) {
            int others = 0;
            for (int[] o : all) {
                if (o != me && o[3] == h && o[1] <= night && night <= o[2]) others++;
            }
            if (others >= houses.get(h)[1]) return false;
        }
        return true;
    }

    int lodge(int g, int h) {
        if (out(g, 0, guests.size() - 1)) return UNKNOWN;
        if (h != NONE && noHouse(h)) return UNKNOWN;
        if (h != NONE && !bed(guests, g, h)) return STATE;
        int was = guests.get(g)[3];
        guests.get(g)[3] = h;
        return was;
    }

    /** Depths by dawn and house, all who sleep as told, with piles under a set. */
    private int[][] depths(List<int[]> all, int piles) {
        int n = houses.size();
        int[][] d = new int[51][n];
        for (int night = 0; night < 50; night++) {
            int[] pressed = new int[n];
            int[] up = new int[n];
            for (int h = 0; h < n; h++) {
                int[] house = houses.get(h);
                int kind = (piles & 1 << h) != 0 ? 2 : house[0];
                int who = 0;
                for (int[] o : all) {
                    if (o[3] == h && o[1] <= night && night <= o[2]) {
                        who++;
                        pressed[h] += o[0] * house[2];
                    }
                }
                if (kind == 2) pressed[h] /= 2;
                up[h] = who == 0 ? 10 * house[3] : kind == 0 ? 0 : 5 * house[3];
            }
            for (int h = 0; h < n; h++) {
                int v = d[night][h] + pressed[h];
                if (h > 0) v += pressed[h - 1] / 4;
                if (h < n - 1) v += pressed[h + 1] / 4;
                v -= up[h];
                d[night + 1][h] = v < 0 ? 0 : v;
            }
        }
        return d;
    }

    private int[][] now() {
        return depths(guests, 0);
    }

    int depth(int h, int dawn) {
        if (noHouse(h)) return UNKNOWN;
        return out(dawn, 0, 50) ? OUTSIDE : now()[dawn][h];
    }

    private boolean apart(int[] row, int a, int b) {
        return Math.abs(row[a] - row[b]) > 10 * step;
    }

    int reach(int h, int dawn) {
        if (noHouse(h)) return UNKNOWN;
        if (out(dawn, 0, 50)) return OUTSIDE;
        int[] row = now()[dawn];
        int set = 1 << h;
        for (int round = 0; round < 7; round++) {
            for (int a = 0; a + 1 < houses.size(); a++) {
                if (!apart(row, a, a + 1) && (set & 3 << a) != 0) set |= 3 << a;
            }
        }
        return set;
    }

    private int planksOf(int[] row) {
        int n = 0;
        for (int a = 0; a + 1 < houses.size(); a++) if (apart(row, a, a + 1)) n++;
        return n;
    }

    private int allPlanks(int[][] d) {
        int n = 0;
        for (int dawn = 1; dawn <= 50; dawn++) n += planksOf(d[dawn]);
        return n;
    }

    int planks(int dawn) {
        if (out(dawn, -1, 50)) return OUTSIDE;
        if (houses.isEmpty()) return STATE;
        return dawn == -1 ? allPlanks(now()) : planksOf(now()[dawn]);
    }

    int under(int what) {
        if (out(what, 0, 1)) return OUTSIDE;
        if (houses.isEmpty()) return STATE;
        int[][] d = now();
        for (int dawn = 0; dawn <= 50; dawn++) {
            for (int h = 0; h < houses.size(); h++) {
                if (d[dawn][h] >= 50 * houses.get(h)[4]) return what == 0 ? dawn : h;
            }
        }
        return NONE;
    }

    long open(int h, int which) {
        if (noHouse(h) || h == houses.size() - 1 || out(which, 0, 1)) return LOST;
        int n = 0;
        int[][] d = now();
        for (int dawn = 1; dawn <= 50; dawn++) if (!apart(d[dawn], h, h + 1)) n++;
        int by = java.math.BigInteger.valueOf(n).gcd(java.math.BigInteger.valueOf(50)).intValue();
        return which == 0 ? n / by : 50 / by;
    }

    // ---- lodgings, feasts, ways

    private static List<int[]> copyOf(List<int[]> rows) {
        List<int[]> copy = new ArrayList<>();
        for (int[] r : rows) copy.add(r.clone());
        return copy;
    }

    private int fewest;
    private int[] best;

    private void tryAll(List<int[]> all, int g, int k) {
        if (g == k) {
            int n = allPlanks(depths(all, 0));
            if (best == null || n < fewest) {
                fewest = n;
                best = new int[k];
                for (int q = 0; q < k; q++) best[q] = all.get(q)[3];
            }
            return;
        }
        for (int h = 0; h < houses.size(); h++) {
            all.get(g)[3] = NONE;
            if (bed(all, g, h)) {
                all.get(g)[3] = h;
                tryAll(all, g + 1, k);
            }
        }
        all.get(g)[3] = NONE;
    }

    int lodgings(int k, int q) {
        if (out(k, 1, 4) || k > guests.size()) return OUTSIDE;
        if (out(q, -1, k - 1)) return UNKNOWN;
        List<int[]> all = copyOf(guests);
        for (int g = 0; g < k; g++) all.get(g)[3] = NONE;
        best = null;
        tryAll(all, 0, k);
        if (best == null) return NONE;
        return q == -1 ? fewest : best[q];
    }

    int feast(int h, int weight, int night) {
        if (noHouse(h)) return UNKNOWN;
        if (out(weight, 1, 300) || out(night, 0, 49)) return OUTSIDE;
        List<int[]> all = copyOf(guests);
        all.add(new int[] {weight, night, 49, h});
        int[][] d = depths(all, 0);
        int n = 0;
        for (int dawn = night + 1; dawn <= 50; dawn++) {
            if (d[dawn][h] >= 50 * houses.get(h)[4]) break;
            n++;
        }
        return n;
    }

    int way(int from, int to, int dawn) {
        if (noHouse(from) || noHouse(to)) return UNKNOWN;
        if (out(dawn, 0, 50)) return OUTSIDE;
        int[][] d = now();
        // In each HOUSE: whether one can be there ahead of the dawn, and behind what is done at it.
        boolean[] ahead = new boolean[houses.size()];
        ahead[from] = true;
        for (int at = dawn; at <= 50; at++) {
            boolean[] behind = ahead.clone();
            for (int h = 0; h + 1 < houses.size(); h++) {
                if (apart(d[at], h, h + 1)) continue;
                if (ahead[h]) behind[h + 1] = true;
                if (ahead[h + 1]) behind[h] = true;
            }
            if (behind[to]) return at;
            ahead = behind;
        }
        return NONE;
    }

    // ---- readings, piles

    int reading(int h, int dawn, int v) {
        if (noHouse(h)) return UNKNOWN;
        if (out(dawn, 0, 50) || out(v, 0, 999999)) return OUTSIDE;
        if (readings.size() == 10) return FULL;
        readings.add(new int[] {h, dawn, v});
        return readings.size() - 1;
    }

    int back(int k) {
        if (out(k, 0, readings.size())) return OUTSIDE;
        readings = new ArrayList<>(readings.subList(0, readings.size() - k));
        return readings.size();
    }

    private boolean allSo(int[][] d) {
        for (int[] r : readings) if (d[r[1]][r[0]] != r[2]) return false;
        return true;
    }

    int right() {
        return allSo(now()) ? 1 : 0;
    }

    int unseen(int what) {
        if (out(what, 0, 1)) return OUTSIDE;
        if (houses.isEmpty()) return STATE;
        List<Integer> pairs = new ArrayList<>();
        for (int h = 0; h < houses.size(); h++) {
            for (int w = 1; w <= 30; w++) {
                List<int[]> all = copyOf(guests);
                all.add(new int[] {w, 0, 49, h});
                if (allSo(depths(all, 0))) pairs.add(100 * h + w);
            }
        }
        return what == 0 ? pairs.size() : pairs.isEmpty() ? NONE : pairs.get(0);
    }

    int piles(int what) {
        if (out(what, 0, 1)) return OUTSIDE;
        if (houses.isEmpty()) return STATE;
        int few = Integer.MAX_VALUE;
        int set = 0;
        for (int a = 0; a < houses.size(); a++) {
            for (int b = a; b < houses.size(); b++) {
                int bits = 1 << a | 1 << b;
                int n = allPlanks(depths(guests, bits));
                if (n < few || (n == few && bits < set)) {
                    few = n;
                    set = bits;
                }
            }
        }
        return what == 0 ? few : set;
    }

    // ---- rents

    /** One round; whether somebody moved. */
    private boolean round(List<int[]> all) {
        boolean moved = false;
        for (int g = 0; g < all.size(); g++) {
            int[] me = all.get(g);
            int was = me[3];
            if (was == NONE) continue;
            long[] deep = new long[houses.size()];
            Arrays.fill(deep, Long.MAX_VALUE);
            long least = Long.MAX_VALUE;
            for (int h = 0; h < houses.size(); h++) {
                if (!bed(all, g, h)) continue;
                me[3] = h;
                int[][] d = depths(all, 0);
                deep[h] = 0;
                for (int night = me[1]; night <= me[2]; night++) deep[h] += d[night + 1][h];
                me[3] = was;
                least = Math.min(least, deep[h]);
            }
            if (deep[was] != least) {
                int h = 0;
                while (deep[h] != least) h++;
                me[3] = h;
                moved = true;
            }
        }
        return moved;
    }

    int settles() {
        if (houses.isEmpty()) return STATE;
        List<int[]> all = copyOf(guests);
        for (int r = 0; r < 50; r++) if (!round(all)) return r;
        return NONE;
    }

    int after(int g, int rounds) {
        if (out(g, 0, guests.size() - 1)) return UNKNOWN;
        if (out(rounds, 0, 50)) return OUTSIDE;
        List<int[]> all = copyOf(guests);
        for (int r = 0; r < rounds && round(all); r++) { }
        return all.get(g)[3];
    }

    // ---- parts

    private class Plain {
        final int h;
        Plain(int h) { this.h = h; }
        int told() { trace = trace * 31 + 1; return houses.get(h)[1]; }
        final int plainly() { trace = trace * 31 + 1; return houses.get(h)[1]; }
        int knocked() { trace = trace * 31 + 4; return h; }
    }

    private class Inn extends Plain {
        Inn(int h) { super(h); }
        @Override int told() { trace = trace * 31 + 2; return super.told() + 100; }
    }

    private class Piled extends Inn {
        Piled(int h) { super(h); }
        @Override int told() { trace = trace * 31 + 3; int t = super.told(); return t + plainly(); }
        @Override int knocked() { trace = trace * 31 + 5; return 40; }
    }

    private Plain house(int h) {
        int kind = houses.get(h)[0];
        return kind == 0 ? new Plain(h) : kind == 1 ? new Inn(h) : new Piled(h);
    }

    int tell(int h) {
        return noHouse(h) ? UNKNOWN : house(h).told();
    }

    int knock(int h) {
        return noHouse(h) ? UNKNOWN : house(h).knocked();
    }

    int as(int h, int kind) {
        fault = 0;
        if (noHouse(h)) return UNKNOWN;
        if (out(kind, 0, 2)) return OUTSIDE;
        Plain p = house(h);
        boolean is = kind == 0 || (kind == 1 ? p instanceof Inn : p instanceof Piled);
        return is ? 1 : fail(2);
    }

    int trace() {
        return trace;
    }

    int fault() {
        return fault;
    }

    int many(int what) {
        switch (what) {
            case 0: return houses.size();
            case 1: return step;
            case 2: return guests.size();
            case 3: return readings.size();
            default: return OUTSIDE;
        }
    }
}
