import java.lang.reflect.Method;
import java.lang.reflect.Modifier;
import java.util.Arrays;
import java.util.Comparator;

/**
 * Every call with every row of numbers that stand at an edge (the least and the greatest told, one
 * beyond, the ends of an int), on objects without a TOWN, with a small one and a full one; held
 * against Model, call by call. No call may throw.
 */
public final class CornersTest {
    private static final int MIN = Integer.MIN_VALUE, MAX = Integer.MAX_VALUE;
    private static final int MOST_CALLS = 512;
    /** By how many numbers a call takes: the fewer they are, the more edges each is put at. */
    private static final int[][] EDGES = {
        {},
        {MIN, MIN + 1, -101, -11, -10, -9, -8, -2, -1, 0, 1, 2, 3, 4, 5, 6, 7, 8, 9, 10, 11, 30, 31, 49, 50, 51, MAX - 1, MAX},
        {MIN, -10, -9, -2, -1, 0, 1, 2, 3, 4, 5, 6, 7, 8, 9, 49, 50, 51, MAX - 1, MAX},
        {MIN, -9, -1, 0, 1, 2, 3, 4, 6, 7, 30, 31, 49, 50, 51, 60, 61, 255, 300, 301, 999999, 1000000, MAX},
        {MIN, -1, 0, 1, 2, 3, 4, 14, 20, 21, 44, 45, 60, 61, MAX},
        {MIN, -1, 0, 1, 3, 4, 60, MAX},
    };
    private static final String SMALL = "t1;i1401;p2922";
    private static final String GREAT = "t0;h1101;i9991;p1999;h2502;i3413;p2924;h9105";

    private final int size;
    private BogTown x;
    private Model m;
    private int calls;
    private long made = 0, wrong = 0;

    private CornersTest(int size) {
        this.size = size;
        anew();
    }

    private void same(String call, long got, long want) {
        made++;
        if (got != want && wrong++ < 8) {
            System.out.println("size " + size + ": " + call + " answered " + got + ", the model " + want);
        }
    }

    private void write(int k, int lane, int cells, String text) {
        same("sheet", x.sheet(k, lane, cells), m.sheet(k, lane, cells));
        for (int i = 0; i < text.length(); i++) {
            same("put", x.put(k, i, text.charAt(i)), m.put(k, i, text.charAt(i)));
        }
    }

    private void anew() {
        x = new BogTown();
        m = new Model();
        String text = size == 2 ? GREAT : SMALL;
        write(0, 0, 60, text);
        write(1, 1, text.length(), text);
        write(2, 2, 0, "");
        calls = 3 + 2 * text.length();
        if (size > 0) {
            same("town", x.town(1, 1, 0, text.length()), m.town(1, 1, 0, text.length()));
            guests(size == 2 ? 8 : 1);
            calls += 60;
        }
    }

    private void guests(int n) {
        for (int g = 0; g < n; g++) {
            int w = 30 - 4 * g + g / 7 * 3;
            same("guest", x.guest(w, 7 * g, 49), m.guest(w, 7 * g, 49));
            same("lodge", x.lodge(g, g % 7), m.lodge(g, g % 7));
        }
        for (int r = 0; r < (n == 8 ? 10 : 1); r++) {
            int v = m.depth(r % 2, r);
            same("reading", x.reading(r % 2, r, v), m.reading(r % 2, r, v));
        }
        same("tell", x.tell(1), m.tell(1));
    }

    private static long asked(Method call, Object on, Object[] numbers) throws Exception {
        return ((Number) call.invoke(on, numbers)).longValue();
    }

    /** All rows of the edges' numbers, the last one going round the fastest. */
    private void all(Method call) throws Exception {
        Method model = Model.class.getDeclaredMethod(call.getName(), call.getParameterTypes());
        int n = call.getParameterCount();
        int[] edges = EDGES[n];
        long rows = 1;
        for (int p = 0; p < n; p++) {
            rows *= edges.length;
        }
        Object[] numbers = new Object[n];
        for (long row = 0; row < rows; row++) {
            long rest = row;
            for (int p = n - 1; p >= 0; p--) {
                numbers[p] = edges[(int) (rest % edges.length)];
                rest /= edges.length;
            }
            if (calls + 4 > MOST_CALLS) {
                anew();
            }
            calls += 4;
            String told = call.getName() + Arrays.toString(numbers);
            same(told, asked(call, x, numbers), asked(model, m, numbers));
            same("fault behind " + told, x.fault(), m.fault());
            same("trace behind " + told, x.trace(), m.trace());
            same("many behind " + told, x.many(2), m.many(2));
        }
    }

    /** The calls of the face in one order, whatever the machine's is. */
    private static Method[] face() {
        return Arrays.stream(BogTown.class.getDeclaredMethods())
            .filter(call -> Modifier.isPublic(call.getModifiers()))
            .sorted(Comparator.comparing(Method::getName))
            .toArray(Method[]::new);
    }

    public static void main(String[] args) throws Exception {
        long made = 0, wrong = 0;
        for (int size = 0; size < 3; size++) {
            CornersTest t = new CornersTest(size);
            for (Method call : face()) {
                t.all(call);
            }
            made += t.made;
            wrong += t.wrong;
        }
        System.out.println(made + " answers at the edges against the model, " + wrong + " not alike");
        if (wrong != 0 || made == 0) {
            System.exit(1);
        }
    }
}
