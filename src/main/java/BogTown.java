/**
 * A town that sinks under its guests: houses in a row on one bog, guests lodged in them, and what
 * their weight does night by night. The document's numbered promises say what each call answers.
 */
public final class BogTown {
    public static final int UNKNOWN = -1, OUTSIDE = -2, STATE = -3, FULL = -4, NONE = -9;
    public static final long LOST = Long.MIN_VALUE;

    private static final int NULL = 1, CAST = 2, INDEX = 3, SIZE = 4;
    private static final int HOUSE = 0, INN = 1, PILED = 2;
    private static final int BYTES = 0, SHORTS = 1, INTS = 2;
    private static final int LEAST_HOUSES = 2, MOST_HOUSES = 7;
    private static final int MOST_GUESTS = 8, MOST_WEIGHT = 30, MOST_LODGED = 4;
    private static final int NIGHTS = 50;
    private static final int MOST_READINGS = 10, MOST_READ = 999999;
    private static final int MOST_ROUNDS = 50;
    private static final int MOST_SHEETS = 4, MOST_CELLS = 60;
    private static final int MOST_FEAST = 300;
    /** Above what PLANKS in all can ever be. */
    private static final int TOO_MANY = MOST_HOUSES * NIGHTS;
    /** The row's place behind all GUESTS: who sleeps there for a question only (a FEAST, UNSEEN). */
    private static final int VISITOR = MOST_GUESTS;
    private static final int SLEEPERS = MOST_GUESTS + 1;

    private final Town town;
    private final Guests guests;
    private final Readings readings;
    private final Sheet[] sheets;
    /** The nights as all is, while nightsKnown holds. */
    private final Nights nights;
    /** The nights as they would be, for a question. */
    private final Nights trial;
    private final Lodgings ways;
    private final Rents rents;
    private boolean nightsKnown;
    private int trace;
    private int fault;

    public BogTown() {
        town = new Town();
        guests = new Guests(town);
        readings = new Readings();
        nights = new Nights(town, guests);
        trial = new Nights(town, guests);
        ways = new Lodgings(town, guests, trial);
        rents = new Rents(town, guests, trial);
        sheets = new Sheet[MOST_SHEETS];
        for (int k = 0; k < MOST_SHEETS; k++) {
            sheets[k] = new Sheet();
        }
    }

    // ---- 1 the town

    public int town(int sheet, int lane, int i, int n) {
        fault = 0;
        if (!isSheet(sheet)) {
            return UNKNOWN;
        }
        if (!isLane(lane)) {
            return OUTSIDE;
        }
        Sheet text = sheets[sheet];
        if (text.isOfAnotherLane(lane)) {
            return failed(CAST);
        }
        if (!text.hasRow) {
            return failed(NULL);
        }
        if (n < 0) {
            return failed(SIZE);
        }
        if (!text.hasCells(i, n)) {
            return failed(INDEX);
        }
        int place = firstFault(text, i, n);
        if (place != NONE) {
            return -100 - place;
        }
        town.build(text, i, n);
        guests.leave();
        readings.count = 0;
        forget();
        return town.count;
    }

    public int ofHouse(int h, int what) {
        if (!town.has(h)) {
            return UNKNOWN;
        }
        House house = town.houses[h];
        switch (what) {
            case 0: return house.kind;
            case 1: return house.beds;
            case 2: return house.gives;
            case 3: return house.rises;
            case 4: return house.door;
            default: return OUTSIDE;
        }
    }

    // ---- 2 guests, nights

    public int guest(int weight, int first, int last) {
        if (!isWithin(weight, 1, MOST_WEIGHT) || !isNight(first) || !isNight(last) || last < first) {
            return OUTSIDE;
        }
        if (town.count == 0) {
            return STATE;
        }
        if (guests.count >= MOST_GUESTS) {
            return FULL;
        }
        int g = guests.count;
        guests.count = g + 1;
        guests.enter(g, weight, first, last);
        forget();
        return g;
    }

    public int ofGuest(int g, int what) {
        if (!guests.has(g)) {
            return UNKNOWN;
        }
        switch (what) {
            case 0: return guests.weight[g];
            case 1: return guests.first[g];
            case 2: return guests.last[g];
            case 3: return guests.where[g];
            default: return OUTSIDE;
        }
    }

    public int lodge(int g, int h) {
        if (!guests.has(g) || (h != NONE && !town.has(h))) {
            return UNKNOWN;
        }
        int was = guests.where[g];
        guests.where[g] = h;
        if (h != NONE && !guests.haveBeds(guests.where)) {
            guests.where[g] = was;
            return STATE;
        }
        forget();
        return was;
    }

    public int depth(int h, int dawn) {
        if (!town.has(h)) {
            return UNKNOWN;
        }
        if (!isDawn(dawn)) {
            return OUTSIDE;
        }
        return asItIs().depthAt(h, dawn);
    }

    public int reach(int h, int dawn) {
        if (!town.has(h)) {
            return UNKNOWN;
        }
        if (!isDawn(dawn)) {
            return OUTSIDE;
        }
        Nights now = asItIs();
        int set = 1 << h;
        for (int left = h - 1; left >= 0 && now.canStep(left, dawn); left--) {
            set |= 1 << left;
        }
        for (int right = h + 1; right < town.count && now.canStep(right - 1, dawn); right++) {
            set |= 1 << right;
        }
        return set;
    }

    public int planks(int dawn) {
        if (dawn != -1 && !isDawn(dawn)) {
            return OUTSIDE;
        }
        if (town.count == 0) {
            return STATE;
        }
        Nights now = asItIs();
        if (dawn != -1) {
            return now.planksAt(dawn);
        }
        int sum = 0;
        for (int d = 1; d <= NIGHTS; d++) {
            sum += now.planksAt(d);
        }
        return sum;
    }

    public int under(int what) {
        if (!isWithin(what, 0, 1)) {
            return OUTSIDE;
        }
        if (town.count == 0) {
            return STATE;
        }
        Nights now = asItIs();
        for (int d = 0; d <= NIGHTS; d++) {
            for (int h = 0; h < town.count; h++) {
                if (now.isUnderAt(h, d)) {
                    return what == 0 ? d : h;
                }
            }
        }
        return NONE;
    }

    public long open(int h, int which) {
        // Behind the last HOUSE there is none to STEP to.
        if (!town.has(h) || !town.has(h + 1)) {
            return LOST;
        }
        if (!isWithin(which, 0, 1)) {
            return LOST;
        }
        Nights now = asItIs();
        int dawns = 0;
        for (int d = 1; d <= NIGHTS; d++) {
            if (now.canStep(h, d)) {
                dawns++;
            }
        }
        int shared = commonDivisor(dawns, NIGHTS);
        return (which == 0 ? dawns : NIGHTS) / shared;
    }

    // ---- 3 lodgings, feasts, ways

    public int lodgings(int k, int q) {
        if (!isWithin(k, 1, MOST_LODGED) || k > guests.count) {
            return OUTSIDE;
        }
        if (!isWithin(q, -1, k - 1)) {
            return UNKNOWN;
        }
        ways.search(k);
        return q == -1 ? ways.planksFor(k) : ways.houseFor(k, q);
    }

    public int feast(int h, int weight, int night) {
        if (!town.has(h)) {
            return UNKNOWN;
        }
        if (!isWithin(weight, 1, MOST_FEAST) || !isNight(night)) {
            return OUTSIDE;
        }
        guests.enter(VISITOR, weight, night, NIGHTS - 1);
        guests.where[VISITOR] = h;
        int lasted = nightsAbove(h, night);
        guests.where[VISITOR] = NONE;
        return lasted;
    }

    public int way(int from, int to, int dawn) {
        if (!town.has(from) || !town.has(to)) {
            return UNKNOWN;
        }
        if (!isDawn(dawn)) {
            return OUTSIDE;
        }
        Nights now = asItIs();
        int at = 1 << from;
        for (int d = dawn; d <= NIGHTS; d++) {
            // One STEP a dawn, and one is there at that dawn; only waiting goes on to the next one.
            at = now.stepped(at, d);
            if ((at >> to & 1) == 1) {
                return d;
            }
        }
        return NONE;
    }

    // ---- 4 readings, piles

    public int reading(int h, int dawn, int v) {
        if (!town.has(h)) {
            return UNKNOWN;
        }
        if (!isDawn(dawn) || !isWithin(v, 0, MOST_READ)) {
            return OUTSIDE;
        }
        if (readings.count >= MOST_READINGS) {
            return FULL;
        }
        return readings.add(h, dawn, v);
    }

    public int back(int k) {
        if (!isWithin(k, 0, readings.count)) {
            return OUTSIDE;
        }
        readings.count -= k;
        return readings.count;
    }

    public int right() {
        return readings.count == 0 || readings.areSo(asItIs()) ? 1 : 0;
    }

    public int unseen(int what) {
        if (!isWithin(what, 0, 1)) {
            return OUTSIDE;
        }
        if (town.count == 0) {
            return STATE;
        }
        int pairs = 0;
        int first = NONE;
        for (int h = 0; h < town.count; h++) {
            for (int weight = 1; weight <= MOST_WEIGHT; weight++) {
                if (couldSleep(h, weight)) {
                    first = pairs == 0 ? 100 * h + weight : first;
                    pairs++;
                }
            }
        }
        return what == 0 ? pairs : first;
    }

    public int piles(int what) {
        if (!isWithin(what, 0, 1)) {
            return OUTSIDE;
        }
        if (town.count == 0) {
            return STATE;
        }
        int fewest = TOO_MANY;
        int least = 0;
        for (int set = 1; set < 1 << town.count; set++) {
            if (Integer.bitCount(set) <= 2) {
                int planks = trial.planksBelow(guests.where, set, fewest);
                if (planks < fewest) {
                    fewest = planks;
                    least = set;
                }
            }
        }
        return what == 0 ? fewest : least;
    }

    // ---- 5 rents

    public int settles() {
        if (town.count == 0) {
            return STATE;
        }
        rents.run();
        return rents.settled;
    }

    public int after(int g, int rounds) {
        if (!guests.has(g)) {
            return UNKNOWN;
        }
        if (!isWithin(rounds, 0, MOST_ROUNDS)) {
            return OUTSIDE;
        }
        rents.run();
        return rents.houseBehind(g, rounds);
    }

    // ---- 6 sheets, parts

    public int sheet(int k, int lane, int n) {
        fault = 0;
        if (!isSheet(k)) {
            return UNKNOWN;
        }
        if (!isLane(lane) || n > MOST_CELLS) {
            return OUTSIDE;
        }
        if (n < 0) {
            return failed(SIZE);
        }
        sheets[k].layRow(lane, n);
        return 1;
    }

    public int lose(int k) {
        if (!isSheet(k)) {
            return UNKNOWN;
        }
        int had = sheets[k].hasRow ? 1 : 0;
        sheets[k].hasRow = false;
        return had;
    }

    public int put(int k, int i, int v) {
        fault = 0;
        if (!isSheet(k)) {
            return UNKNOWN;
        }
        Sheet sheet = sheets[k];
        if (!sheet.hasRow) {
            return failed(NULL);
        }
        if (!isWithin(i, 0, sheet.size - 1)) {
            return failed(INDEX);
        }
        sheet.cells[i] = sheet.cut(v);
        return 1;
    }

    public long cell(int k, int i, int lane) {
        fault = 0;
        if (!isSheet(k) || !isLane(lane)) {
            return LOST;
        }
        Sheet sheet = sheets[k];
        if (sheet.isOfAnotherLane(lane)) {
            fault = CAST;
            return LOST;
        }
        if (!sheet.hasRow) {
            fault = NULL;
            return LOST;
        }
        if (!isWithin(i, 0, sheet.size - 1)) {
            fault = INDEX;
            return LOST;
        }
        return sheet.cells[i];
    }

    public int copy(int k, int i, int other, int j, int n) {
        fault = 0;
        if (!isSheet(k) || !isSheet(other)) {
            return UNKNOWN;
        }
        Sheet from = sheets[k];
        Sheet to = sheets[other];
        if (!from.hasRow || !to.hasRow) {
            return failed(NULL);
        }
        if (from.lane != to.lane) {
            return failed(CAST);
        }
        if (!from.hasCells(i, n) || !to.hasCells(j, n)) {
            return failed(INDEX);
        }
        System.arraycopy(from.cells, i, to.cells, j, n);
        return n;
    }

    public int tell(int h) {
        if (!town.has(h)) {
            return UNKNOWN;
        }
        House house = town.houses[h];
        switch (house.kind) {
            case PILED: return toldAsPiled(house);
            case INN: return toldAsInn(house);
            default: return toldAsHouse(house);
        }
    }

    public int knock(int h) {
        if (!town.has(h)) {
            return UNKNOWN;
        }
        if (town.houses[h].kind == PILED) {
            leaveTrace(5);
            return 40;
        }
        leaveTrace(4);
        return h;
    }

    public int as(int h, int kind) {
        fault = 0;
        if (!town.has(h)) {
            return UNKNOWN;
        }
        if (!isWithin(kind, HOUSE, PILED)) {
            return OUTSIDE;
        }
        // Each kind is of all the kinds below it.
        return town.houses[h].kind >= kind ? 1 : failed(CAST);
    }

    public int trace() {
        return trace;
    }

    public int fault() {
        return fault;
    }

    public int many(int what) {
        switch (what) {
            case 0: return town.count;
            case 1: return town.step;
            case 2: return guests.count;
            case 3: return readings.count;
            default: return OUTSIDE;
        }
    }

    // ---- what the calls share

    private static boolean isWithin(int v, int least, int most) {
        return v >= least && v <= most;
    }

    private static boolean isSheet(int k) {
        return isWithin(k, 0, MOST_SHEETS - 1);
    }

    private static boolean isLane(int lane) {
        return isWithin(lane, BYTES, INTS);
    }

    private static boolean isNight(int night) {
        return isWithin(night, 0, NIGHTS - 1);
    }

    private static boolean isDawn(int dawn) {
        return isWithin(dawn, 0, NIGHTS);
    }

    private int failed(int which) {
        fault = which;
        return -10 - which;
    }

    /** Of a small number (0 too) and one above 0: what divides both, 1 or more. */
    private static int commonDivisor(int small, int large) {
        for (int d = large; d > 1; d--) {
            if (small % d == 0 && large % d == 0) {
                return d;
            }
        }
        return 1;
    }

    /** What was found out of the TOWN as it was holds no more. */
    private void forget() {
        nightsKnown = false;
        ways.known = 0;
        rents.known = false;
    }

    private Nights asItIs() {
        if (!nightsKnown) {
            nights.pass(guests.where, NIGHTS);
            nightsKnown = true;
        }
        return nights;
    }

    /** For how many nights from a night on a HOUSE is not UNDER at the dawn behind, on trial. */
    private int nightsAbove(int h, int from) {
        trial.pass(guests.where, NIGHTS);
        int n = from;
        while (n < NIGHTS && !trial.isUnderAt(h, n + 1)) {
            n++;
        }
        return n - from;
    }

    private boolean couldSleep(int h, int weight) {
        guests.enter(VISITOR, weight, 0, NIGHTS - 1);
        guests.where[VISITOR] = h;
        trial.pass(guests.where, readings.lastDawn());
        guests.where[VISITOR] = NONE;
        return readings.areSo(trial);
    }

    private void leaveTrace(int body) {
        trace = 31 * trace + body;
    }

    private int toldAsHouse(House house) {
        leaveTrace(1);
        return house.beds;
    }

    private int toldAsInn(House house) {
        leaveTrace(2);
        return toldAsHouse(house) + 100;
    }

    private int toldAsPiled(House house) {
        leaveTrace(3);
        int asInn = toldAsInn(house);
        return asInn + toldAsHouse(house);
    }

    // ---- the TEXT

    /** The FIRST FAULT of n cells from a cell on, read as a TEXT; NONE. */
    private static int firstFault(Sheet text, int from, int n) {
        for (int place = 0; place < n; place++) {
            if (!goesOn(place, text.cells[from + place])) {
                return place;
            }
        }
        boolean betweenHouses = (n - Town.HEAD) % Town.ROW == 0;
        boolean enough = n >= Town.HEAD + LEAST_HOUSES * Town.ROW;
        return betweenHouses && enough ? NONE : n;
    }

    /** Whether a TEXT that is right up to a place goes on with a code there. */
    private static boolean goesOn(int place, int code) {
        if (place < Town.HEAD) {
            return place == 0 ? code == 't' : isWithin(code, '0', '9');
        }
        if (place >= Town.HEAD + MOST_HOUSES * Town.ROW) {
            return false;
        }
        switch ((place - Town.HEAD) % Town.ROW) {
            case 0: return code == ';';
            case 1: return code == 'h' || code == 'i' || code == 'p';
            case 4: return isWithin(code, '0', '9');
            default: return isWithin(code, '1', '9');
        }
    }

    /** One HOUSE, and what its ground does in a night. */
    private static final class House {
        private int kind, beds, gives, rises, door;

        private int pressedBy(int weight, boolean piled) {
            int whole = weight * gives;
            return piled ? whole / 2 : whole;
        }

        private int comesUp(boolean slept, boolean piled) {
            if (!slept) {
                return 10 * rises;
            }
            return piled || kind >= INN ? 5 * rises : 0;
        }
    }

    /** The HOUSES in their row; none while there is no TOWN. */
    private static final class Town {
        /** Codes ahead of the first HOUSE, and codes of each HOUSE. */
        private static final int HEAD = 2, ROW = 6;

        private final House[] houses = new House[MOST_HOUSES];
        private int count, step;

        private Town() {
            for (int h = 0; h < MOST_HOUSES; h++) {
                houses[h] = new House();
            }
        }

        private boolean has(int h) {
            return h >= 0 && h < count;
        }

        /** All anew by a TEXT that has no FAULT. */
        private void build(Sheet text, int from, int n) {
            step = text.cells[from + 1] - '0';
            count = (n - HEAD) / ROW;
            for (int h = 0; h < count; h++) {
                int at = from + HEAD + h * ROW;
                House house = houses[h];
                house.kind = kindOf(text.cells[at + 1]);
                house.beds = text.cells[at + 2] - '0';
                house.gives = text.cells[at + 3] - '0';
                house.rises = text.cells[at + 4] - '0';
                house.door = text.cells[at + 5] - '0';
            }
        }

        private static int kindOf(int letter) {
            switch (letter) {
                case 'p': return PILED;
                case 'i': return INN;
                default: return HOUSE;
            }
        }
    }

    /** The GUESTS, and behind them the VISITOR, who is LODGED only while a question is looked into. */
    private static final class Guests {
        private final Town town;
        private final int[] weight = new int[SLEEPERS];
        private final int[] first = new int[SLEEPERS];
        private final int[] last = new int[SLEEPERS];
        private final int[] where = new int[SLEEPERS];
        private int count;

        private Guests(Town town) {
            this.town = town;
            for (int g = 0; g < SLEEPERS; g++) {
                where[g] = NONE;
            }
        }

        private boolean has(int g) {
            return g >= 0 && g < count;
        }

        private void leave() {
            count = 0;
            for (int g = 0; g < SLEEPERS; g++) {
                where[g] = NONE;
            }
        }

        private void enter(int g, int weight, int first, int last) {
            this.weight[g] = weight;
            this.first[g] = first;
            this.last[g] = last;
            where[g] = NONE;
        }

        private boolean isThere(int g, int night) {
            return first[g] <= night && night <= last[g];
        }

        /** Whether nowhere in a row of HOUSES more sleep in a night than there are BEDS. */
        private boolean haveBeds(int[] row) {
            // A HOUSE is fullest in a night in which somebody comes: no others need be looked at.
            for (int g = 0; g < count; g++) {
                int h = row[g];
                if (town.has(h) && sleepers(row, h, first[g]) > town.houses[h].beds) {
                    return false;
                }
            }
            return true;
        }

        private int sleepers(int[] row, int h, int night) {
            int n = 0;
            for (int g = 0; g < count; g++) {
                if (row[g] == h && isThere(g, night)) {
                    n++;
                }
            }
            return n;
        }
    }

    /** How deep each HOUSE stands, dawn by dawn, if all sleep as a row of HOUSES tells. */
    private static final class Nights {
        private final Town town;
        private final Guests guests;
        private final int[] depths = new int[(NIGHTS + 1) * MOST_HOUSES];
        private final int[] weights = new int[MOST_HOUSES];
        private final int[] pressed = new int[MOST_HOUSES];
        /** How much deeper each HOUSE comes in a night; the same until somebody comes or goes. */
        private final int[] change = new int[MOST_HOUSES];
        /** The nights in which it may be another one, as bits. */
        private long turns;

        private Nights(Town town, Guests guests) {
            this.town = town;
            this.guests = guests;
        }

        private void pass(int[] row, int lastDawn) {
            begin(row);
            for (int night = 0; night < lastDawn; night++) {
                passNight(row, night, 0);
            }
        }

        /** PLANKS in all with PILES under a set; of no less than enough just that it is so. */
        private int planksBelow(int[] row, int piles, int enough) {
            begin(row);
            int sum = 0;
            for (int night = 0; night < NIGHTS && sum < enough; night++) {
                passNight(row, night, piles);
                sum += planksAt(night + 1);
            }
            return sum;
        }

        private void begin(int[] row) {
            turns = 1;
            for (int g = 0; g < SLEEPERS; g++) {
                if (row[g] != NONE) {
                    turns |= 1L << guests.first[g];
                    turns |= 1L << (guests.last[g] + 1);
                }
            }
            for (int h = 0; h < MOST_HOUSES; h++) {
                depths[h] = 0;
            }
        }

        private void passNight(int[] row, int night, int piles) {
            if ((turns >> night & 1) == 1) {
                weigh(row, night);
                press(piles);
            }
            int before = night * MOST_HOUSES;
            int behind = before + MOST_HOUSES;
            for (int h = 0; h < town.count; h++) {
                int deep = depths[before + h] + change[h];
                depths[behind + h] = deep > 0 ? deep : 0;
            }
        }

        private void weigh(int[] row, int night) {
            for (int h = 0; h < MOST_HOUSES; h++) {
                weights[h] = 0;
            }
            for (int g = 0; g < SLEEPERS; g++) {
                int h = row[g];
                if (town.has(h) && guests.isThere(g, night)) {
                    weights[h] += guests.weight[g];
                }
            }
        }

        private void press(int piles) {
            for (int h = 0; h < town.count; h++) {
                House house = town.houses[h];
                boolean piled = house.kind == PILED || (piles >> h & 1) == 1;
                pressed[h] = house.pressedBy(weights[h], piled);
                change[h] = pressed[h] - house.comesUp(weights[h] > 0, piled);
            }
            for (int h = 0; h + 1 < town.count; h++) {
                change[h] += pressed[h + 1] / 4;
                change[h + 1] += pressed[h] / 4;
            }
        }

        private int depthAt(int h, int dawn) {
            return depths[dawn * MOST_HOUSES + h];
        }

        private boolean isUnderAt(int h, int dawn) {
            return depthAt(h, dawn) >= 50 * town.houses[h].door;
        }

        /** Between a HOUSE and the next one, which there must be. */
        private boolean canStep(int h, int dawn) {
            int at = dawn * MOST_HOUSES + h;
            int deeper = depths[at] - depths[at + 1];
            int most = 10 * town.step;
            return deeper <= most && deeper >= -most;
        }

        private int planksAt(int dawn) {
            int n = 0;
            for (int h = 0; h + 1 < town.count; h++) {
                if (!canStep(h, dawn)) {
                    n++;
                }
            }
            return n;
        }

        /** Where one can be who was in one of a set of HOUSES and makes one STEP, or none. */
        private int stepped(int set, int dawn) {
            int next = set;
            for (int h = 0; h + 1 < town.count; h++) {
                if ((set >> h & 3) != 0 && canStep(h, dawn)) {
                    next |= 3 << h;
                }
            }
            return next;
        }
    }

    /** LODGINGS of the first GUESTS, kept for each number of them till something changes. */
    private static final class Lodgings {
        private final Town town;
        private final Guests guests;
        private final Nights nights;
        private final int[] row = new int[SLEEPERS];
        private final int[] fewest = new int[MOST_LODGED + 1];
        private final int[] best = new int[(MOST_LODGED + 1) * MOST_LODGED];
        /** The numbers of GUESTS that were looked into, as bits. */
        private int known;

        private Lodgings(Town town, Guests guests, Nights nights) {
            this.town = town;
            this.guests = guests;
            this.nights = nights;
        }

        private int planksFor(int k) {
            return fewest[k] == TOO_MANY ? NONE : fewest[k];
        }

        private int houseFor(int k, int q) {
            return fewest[k] == TOO_MANY ? NONE : best[k * MOST_LODGED + q];
        }

        private void search(int k) {
            if ((known >> k & 1) == 1) {
                return;
            }
            known |= 1 << k;
            fewest[k] = TOO_MANY;
            System.arraycopy(guests.where, 0, row, 0, SLEEPERS);
            int all = 1;
            for (int q = 0; q < k; q++) {
                all *= town.count;
            }
            for (int number = 0; number < all; number++) {
                layOut(number, k);
                if (guests.haveBeds(row)) {
                    keepIfFewer(k);
                }
            }
        }

        /** The ways in their order as rows: the last GUEST's HOUSE goes round the fastest. */
        private void layOut(int number, int k) {
            int rest = number;
            for (int q = k - 1; q >= 0 && town.count > 0; q--) {
                row[q] = rest % town.count;
                rest /= town.count;
            }
        }

        private void keepIfFewer(int k) {
            int planks = nights.planksBelow(row, 0, fewest[k]);
            if (planks < fewest[k]) {
                fewest[k] = planks;
                System.arraycopy(row, 0, best, k * MOST_LODGED, k);
            }
        }
    }

    /** RENTS: the rounds as they would go, kept till something changes. */
    private static final class Rents {
        private final Town town;
        private final Guests guests;
        private final Nights nights;
        private final int[] row = new int[SLEEPERS];
        /** The rows behind each round, up to the last one that is kept. */
        private final int[] rows = new int[(MOST_ROUNDS + 1) * SLEEPERS];
        private int lastKept;
        private int settled;
        private boolean known;

        private Rents(Town town, Guests guests, Nights nights) {
            this.town = town;
            this.guests = guests;
            this.nights = nights;
        }

        private int houseBehind(int g, int rounds) {
            return rows[Math.min(rounds, lastKept) * SLEEPERS + g];
        }

        private void run() {
            if (known) {
                return;
            }
            known = true;
            System.arraycopy(guests.where, 0, row, 0, SLEEPERS);
            settled = NONE;
            keep(0);
            for (int round = 1; round <= MOST_ROUNDS && settled == NONE; round++) {
                boolean moved = false;
                for (int g = 0; g < guests.count; g++) {
                    moved |= row[g] != NONE && moves(g);
                }
                if (moved) {
                    keep(round);
                } else {
                    settled = round - 1;
                }
            }
        }

        private void keep(int round) {
            System.arraycopy(row, 0, rows, round * SLEEPERS, SLEEPERS);
            lastKept = round;
        }

        private boolean moves(int g) {
            int was = row[g];
            int best = was;
            int least = howDeep(g);
            for (int h = 0; h < town.count; h++) {
                row[g] = h;
                if (h != was && guests.haveBeds(row)) {
                    int deep = howDeep(g);
                    if (deep < least) {
                        least = deep;
                        best = h;
                    }
                }
            }
            row[g] = best;
            return best != was;
        }

        /** How deep a GUEST would sleep as the row is, summed up over his nights. */
        private int howDeep(int g) {
            nights.begin(row);
            int sum = 0;
            for (int night = 0; night <= guests.last[g]; night++) {
                nights.passNight(row, night, 0);
                sum += night >= guests.first[g] ? nights.depthAt(row[g], night + 1) : 0;
            }
            return sum;
        }
    }

    /** READINGS in their order. */
    private static final class Readings {
        private final int[] house = new int[MOST_READINGS];
        private final int[] dawn = new int[MOST_READINGS];
        private final int[] read = new int[MOST_READINGS];
        private int count;

        private int add(int h, int d, int v) {
            int number = count;
            house[number] = h;
            dawn[number] = d;
            read[number] = v;
            count = number + 1;
            return number;
        }

        private int lastDawn() {
            int last = 0;
            for (int k = 0; k < count; k++) {
                last = Math.max(last, dawn[k]);
            }
            return last;
        }

        private boolean areSo(Nights nights) {
            for (int k = 0; k < count; k++) {
                if (nights.depthAt(house[k], dawn[k]) != read[k]) {
                    return false;
                }
            }
            return true;
        }
    }

    /** A SHEET; its cells are made once, and a new row is laid into them. */
    private static final class Sheet {
        private final int[] cells = new int[MOST_CELLS];
        private boolean hasRow;
        private int lane, size;

        private void layRow(int lane, int size) {
            this.lane = lane;
            this.size = size;
            hasRow = true;
            for (int i = 0; i < MOST_CELLS; i++) {
                cells[i] = 0;
            }
        }

        private boolean isOfAnotherLane(int asked) {
            return hasRow && lane != asked;
        }

        /** Whether there are n cells from i on; i is a cell or the end, even if n is 0. */
        private boolean hasCells(int i, int n) {
            return i >= 0 && i <= size && n >= 0 && n <= size - i;
        }

        private int cut(int v) {
            switch (lane) {
                case BYTES: return (byte) v;
                case SHORTS: return (short) v;
                default: return v;
            }
        }
    }
}
