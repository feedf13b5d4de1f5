import java.util.Arrays;

/** The year's one road through a delta: its ground, its water, its villages, what the road costs and when it goes. */
public final class DeltaRoad {
    public static final int BAD = -1, NOT = -2, FULL = -3, NONE = -4, NULL = -11, CAST = -12, INDEX = -13, SIZE = -14;

    private static final int EDGE = 7, CELLS = 49, SIDES = 4;
    private static final int HEIGHT = 0, MUD = 1, KIND = 2, BONES = 3, SPRING = 4, TRAITS = 5;
    private static final int MOST_MUD = 9, MOST_LEVEL = 40, FIRST_HEIGHT = 5;
    private static final int MOST_VILLAGES = 6, MOST_LOADS = 99, SETS = 64;
    private static final int MOST_ROAD = 60, MOST_WEIGHT = 999, MOST_AXLES = 9, SAFE_WATER = 3;
    private static final int MOST_WEEK_WEIGHT = 9, MOST_WEEKS = 60, MOST_ODDS_WEEKS = 6;
    private static final int MOST_TAPE = 140, FIRST_FAULT = -20;
    private static final int SHEETS = 4, LANES = 3, BYTES = 0, SHORTS = 1, MOST_ITEMS = 24;
    private static final int BELOW_ZERO = 100000;

    private static final int[] MOST_OF_TRAIT = {20, 9, 3, 1, 1};
    private static final int[] COST_OF_KIND = {1, 3, 2, 6};
    private static final int[] SOFTNESS_OF_KIND = {0, 10, 10, 20};
    private static final int[] ORDERS = {1, 1, 2, 6, 24, 120, 720};

    private final World world = new World();
    private final Water water = new Water();
    private final Water trial = new Water();
    private final Tape tape = new Tape();
    private final Sheets sheets = new Sheets();
    private final Ground groundDraft = new Ground();
    private final Villages villagesDraft = new Villages();
    private World kept = null;
    private Plan plan = null;
    private boolean waterKnown = false;
    private boolean planKnown = false;

    public DeltaRoad() {
    }

    // ---- 1 the delta

    public int make(int cell, int what, int v) {
        if (noCell(cell) || outside(what, 0, TRAITS - 1) || outside(v, 0, MOST_OF_TRAIT[what])) {
            return BAD;
        }
        int was = world.ground.traits[what][cell];
        world.ground.traits[what][cell] = v;
        forget();
        return was;
    }

    public int told(int cell, int what) {
        if (noCell(cell) || outside(what, 0, 7)) {
            return BAD;
        }
        switch (what) {
            case 5:
                return waterNow().depth[cell];
            case 6:
                return costOf(cell);
            case 7:
                return bearingOf(cell);
            default:
                return world.ground.traits[what][cell];
        }
    }

    public int level(int v) {
        if (outside(v, 0, MOST_LEVEL)) {
            return BAD;
        }
        world.ground.level = v;
        forget();
        return waterNow().wetCells();
    }

    public int flood() {
        return runFlood();
    }

    public int type(long w, int n) {
        if (outside(n, 1, 8) || !Tape.canStand(w, n)) {
            return BAD;
        }
        if (tape.length + n > MOST_TAPE) {
            return FULL;
        }
        tape.append(w, n);
        return tape.length;
    }

    public int delta() {
        groundDraft.copy(world.ground);
        int answer = tape.readDelta(groundDraft);
        tape.clear();
        if (answer > 0) {
            world.ground.copy(groundDraft);
            forget();
        }
        return answer;
    }

    public int villages() {
        int answer = tape.readVillages(villagesDraft);
        tape.clear();
        if (answer > 0) {
            world.villages.copy(villagesDraft);
            forget();
        }
        return answer;
    }

    public int count(int what) {
        switch (what) {
            case 0:
                return world.villages.number;
            case 1:
                return world.laid.length;
            case 2:
                return waterNow().wetCells();
            case 3:
                return world.ground.total(MUD);
            case 4:
                return world.ground.total(BONES);
            case 5:
                return world.weather.total();
            case 6:
                return world.ground.level;
            default:
                return BAD;
        }
    }

    // ---- 2 villages, the cheapest road

    public int village(int cell, int loads) {
        if (noCell(cell) || outside(loads, 1, MOST_LOADS)) {
            return BAD;
        }
        if (world.villages.number >= MOST_VILLAGES) {
            return FULL;
        }
        forget();
        return world.villages.add(cell, loads);
    }

    public int of(int village, int what) {
        if (outside(village, 0, world.villages.number - 1)) {
            return BAD;
        }
        switch (what) {
            case 0:
                return world.villages.cells[village];
            case 1:
                return world.villages.loads[village];
            default:
                return BAD;
        }
    }

    public int ends(int first, int second) {
        if (noCell(first) || noCell(second)) {
            return BAD;
        }
        int was = 100 * world.firstEnd + world.secondEnd;
        world.firstEnd = first;
        world.secondEnd = second;
        forget();
        return was;
    }

    public int cheapest(int set) {
        if (noSet(set)) {
            return BAD;
        }
        return planNow().costFor(set);
    }

    public int worth(int set) {
        if (noSet(set)) {
            return BAD - BELOW_ZERO;
        }
        return worthBy(planNow(), set);
    }

    public int vote() {
        Plan now = planNow();
        int best = 0;
        int most = worthBy(now, 0);
        for (int set = 1; set < world.villages.sets(); set++) {
            int gain = worthBy(now, set);
            if (gain > most) {
                most = gain;
                best = set;
            }
        }
        return best;
    }

    public int share(int set, int village, int part) {
        if (noSet(set) || outside(village, 0, world.villages.number - 1) || outside(part, 0, 1)) {
            return BAD;
        }
        if ((set >> village & 1) == 0) {
            return BAD;
        }
        long above = planNow().costInAllOrders(set, village);
        return (int) lowestTerms(above, ORDERS[Integer.bitCount(set)], part);
    }

    public int lay(int set) {
        if (noSet(set)) {
            return BAD;
        }
        Plan now = planNow();
        if (now.cellsFor(set) > MOST_ROAD) {
            return FULL;
        }
        now.walk(set, world.laid);
        return world.laid.length;
    }

    // ---- 3 the road that is laid

    public int step(int cell) {
        Laid laid = world.laid;
        if (noCell(cell)) {
            return BAD;
        }
        if (laid.length > 0 && sideTo(laid.cells[laid.length - 1], cell) < 0) {
            return NOT;
        }
        if (laid.length >= MOST_ROAD) {
            return FULL;
        }
        laid.add(cell);
        return laid.length;
    }

    public int back(int n) {
        if (outside(n, 1, MOST_ROAD)) {
            return BAD;
        }
        if (n > world.laid.length) {
            return NOT;
        }
        world.laid.length -= n;
        return world.laid.length;
    }

    public int at(int i) {
        if (outside(i, 0, world.laid.length - 1)) {
            return BAD;
        }
        return world.laid.cells[i];
    }

    public int road(int what) {
        switch (what) {
            case 0:
                return costOfRoad();
            case 1:
                return servedByRoad();
            case 2:
                return world.laid.bends();
            case 3:
                return waterNow().deepest(world.laid);
            default:
                return BAD;
        }
    }

    public int sinks(int weight, int axles) {
        if (outside(weight, 1, MOST_WEIGHT) || outside(axles, 1, MOST_AXLES)) {
            return BAD;
        }
        int onAxle = weight / axles;
        for (int i = 0; i < world.laid.length; i++) {
            if (onAxle > bearingOf(world.laid.cells[i])) {
                return i;
            }
        }
        return NONE;
    }

    public int toll(int axles) {
        if (outside(axles, 1, MOST_AXLES)) {
            return BAD;
        }
        return 2 * axles * waterNow().wetCellsOf(world.laid);
    }

    public int goes() {
        int least = leastGoingLevel();
        return least > MOST_LEVEL ? NONE : least;
    }

    public int weight(int level, int v) {
        if (outside(level, 0, MOST_LEVEL) || outside(v, 0, MOST_WEEK_WEIGHT)) {
            return BAD;
        }
        int was = world.weather.weights[level];
        world.weather.weights[level] = v;
        return was;
    }

    public long odds(int n, int part) {
        if (outside(n, 1, MOST_ODDS_WEEKS) || outside(part, 0, 1)) {
            return BAD;
        }
        long all = world.weather.total();
        if (all <= 0) {
            return NOT;
        }
        // Water only rises with the level, so the road stays in every week below the least level at which it goes.
        long staying = world.weather.totalBelow(leastGoingLevel());
        long below = power(all, n);
        return lowestTerms(below - power(staying, n), below, part);
    }

    public int weeks(int n) {
        if (outside(n, 1, MOST_WEEKS)) {
            return BAD;
        }
        if (world.weather.total() <= 0) {
            return NOT;
        }
        for (int week = 1; week <= n; week++) {
            world.ground.level = world.weather.nextLevel();
            forget();
            boolean gone = waterNow().deepest(world.laid) > SAFE_WATER;
            runFlood();
            if (gone) {
                return week;
            }
        }
        return NONE;
    }

    public int seed(int v) {
        if (v < 0) {
            return BAD;
        }
        int was = world.weather.drawn;
        world.weather.drawn = v;
        return was;
    }

    public int leave() {
        int fresh = world.ground.layBones(world.laid);
        world.laid.length = 0;
        forget();
        return fresh;
    }

    public int image() {
        if (kept == null) {
            kept = new World();
        }
        kept.copy(world);
        return 1;
    }

    public int restore() {
        if (kept == null) {
            return NONE;
        }
        world.copy(kept);
        forget();
        return 1;
    }

    // ---- 4 sheets

    public int leaves(int set, int sheet, int lane, int from) {
        if (noSet(set) || set == 0 || noSheet(sheet) || noLane(lane)) {
            return BAD;
        }
        int refusal = sheets.refusal(sheet, lane, from, Integer.bitCount(set));
        if (refusal != 0) {
            return refusal;
        }
        Plan now = planNow();
        for (int part = 1; part <= set; part++) {
            if ((part & ~set) == 0 && sheets.sum(sheet, from, set, part) > now.costFor(part)) {
                return part;
            }
        }
        return NONE;
    }

    public int sheet(int sheet, int lane, int n) {
        if (noSheet(sheet) || noLane(lane) || n > MOST_ITEMS) {
            return BAD;
        }
        if (n < 0) {
            return SIZE;
        }
        sheets.renew(sheet, lane, n);
        return n;
    }

    public int drop(int sheet) {
        if (noSheet(sheet)) {
            return BAD;
        }
        if (!sheets.held[sheet]) {
            return NULL;
        }
        sheets.held[sheet] = false;
        return sheets.sizes[sheet];
    }

    public int item(int sheet, int lane, int i, int v) {
        if (noSheet(sheet) || noLane(lane)) {
            return BAD;
        }
        int refusal = sheets.refusal(sheet, lane, i, 1);
        if (refusal != 0) {
            return refusal;
        }
        sheets.put(sheet, i, v);
        return 1;
    }

    public int film(int row, int sheet, int lane, int from) {
        if (outside(row, 0, EDGE - 1) || noSheet(sheet) || noLane(lane)) {
            return BAD;
        }
        int refusal = sheets.refusal(sheet, lane, from, EDGE);
        if (refusal != 0) {
            return refusal;
        }
        Water now = waterNow();
        for (int column = 0; column < EDGE; column++) {
            sheets.put(sheet, from + column, now.depth[EDGE * row + column]);
        }
        return EDGE;
    }

    // ---- what the calls share

    private static boolean outside(int v, int least, int most) {
        return v < least || v > most;
    }

    private static boolean noCell(int cell) {
        return outside(cell, 0, CELLS - 1);
    }

    private static boolean noSheet(int sheet) {
        return outside(sheet, 0, SHEETS - 1);
    }

    private static boolean noLane(int lane) {
        return outside(lane, 0, LANES - 1);
    }

    private boolean noSet(int set) {
        return outside(set, 0, world.villages.sets() - 1);
    }

    /** Water and plan are worked out anew only when asked for, behind a call that may have changed them. */
    private void forget() {
        waterKnown = false;
        planKnown = false;
    }

    private Water waterNow() {
        if (!waterKnown) {
            water.rise(world.ground, world.ground.level);
            waterKnown = true;
        }
        return water;
    }

    private Plan planNow() {
        if (plan == null) {
            plan = new Plan();
        }
        if (!planKnown) {
            for (int cell = 0; cell < CELLS; cell++) {
                plan.survey(cell, costOf(cell), world.villages.servedFrom(cell));
            }
            plan.begin(world.firstEnd, world.secondEnd);
            planKnown = true;
        }
        return plan;
    }

    private int costOf(int cell) {
        int cost = COST_OF_KIND[world.ground.traits[KIND][cell]] + waterNow().depth[cell];
        return Math.max(1, cost - world.ground.traits[BONES][cell]);
    }

    private int bearingOf(int cell) {
        int firm = 40 - SOFTNESS_OF_KIND[world.ground.traits[KIND][cell]] + 15 * world.ground.traits[BONES][cell];
        return Math.max(0, firm - 4 * waterNow().depth[cell]);
    }

    private int worthBy(Plan now, int set) {
        return world.villages.loadsOf(set) - now.costFor(set);
    }

    private int runFlood() {
        int gone = waterNow().carryMud(world.ground);
        forget();
        return gone;
    }

    private int costOfRoad() {
        int cost = 0;
        for (int i = 0; i < world.laid.length; i++) {
            cost += costOf(world.laid.cells[i]);
        }
        return cost;
    }

    private int servedByRoad() {
        int served = 0;
        for (int i = 0; i < world.laid.length; i++) {
            served |= world.villages.servedFrom(world.laid.cells[i]);
        }
        return served;
    }

    /** One more than the highest level, if the road goes at none. */
    private int leastGoingLevel() {
        for (int level = 0; level <= MOST_LEVEL; level++) {
            trial.rise(world.ground, level);
            if (trial.deepest(world.laid) > SAFE_WATER) {
                return level;
            }
        }
        return MOST_LEVEL + 1;
    }

    private static long power(long base, int n) {
        long product = 1;
        for (int i = 0; i < n; i++) {
            product *= base;
        }
        return product;
    }

    private static long lowestTerms(long above, long below, int part) {
        long a = above;
        long b = below;
        // Euclid's remainders of longs are at an end within a hundred steps.
        for (int i = 0; i < 200 && b != 0; i++) {
            long rest = a % b;
            a = b;
            b = rest;
        }
        if (a <= 0) {
            return 0;
        }
        return part == 0 ? above / a : below / a;
    }

    /** The cell at a side (up, left, right, down), or -1 beyond the edge. */
    private static int cellAt(int cell, int side) {
        int column = cell % EDGE;
        switch (side) {
            case 0:
                return cell >= EDGE ? cell - EDGE : -1;
            case 1:
                return column > 0 ? cell - 1 : -1;
            case 2:
                return column < EDGE - 1 ? cell + 1 : -1;
            default:
                return cell < CELLS - EDGE ? cell + EDGE : -1;
        }
    }

    private static int sideTo(int cell, int other) {
        for (int side = 0; side < SIDES; side++) {
            if (cellAt(cell, side) == other) {
                return side;
            }
        }
        return -1;
    }

    /** All that an image keeps. */
    private static final class World {
        private final Ground ground = new Ground();
        private final Villages villages = new Villages();
        private final Laid laid = new Laid();
        private final Weather weather = new Weather();
        private int firstEnd = 0;
        private int secondEnd = CELLS - 1;

        void copy(World other) {
            ground.copy(other.ground);
            villages.copy(other.villages);
            laid.copy(other.laid);
            weather.copy(other.weather);
            firstEnd = other.firstEnd;
            secondEnd = other.secondEnd;
        }
    }

    private static final class Ground {
        private final int[][] traits = new int[TRAITS][CELLS];
        private int level = 0;

        Ground() {
            Arrays.fill(traits[HEIGHT], FIRST_HEIGHT);
        }

        void copy(Ground other) {
            for (int what = 0; what < TRAITS; what++) {
                System.arraycopy(other.traits[what], 0, traits[what], 0, CELLS);
            }
            level = other.level;
        }

        int top(int cell) {
            return traits[HEIGHT][cell] + traits[MUD][cell];
        }

        int total(int what) {
            int total = 0;
            for (int cell = 0; cell < CELLS; cell++) {
                total += traits[what][cell];
            }
            return total;
        }

        int layBones(Laid laid) {
            int fresh = 0;
            for (int i = 0; i < laid.length; i++) {
                int cell = laid.cells[i];
                fresh += 1 - traits[BONES][cell];
                traits[BONES][cell] = 1;
            }
            return fresh;
        }
    }

    /** The water over a ground at one level. */
    private static final class Water {
        private final int[] depth = new int[CELLS];
        private final int[] reached = new int[CELLS];
        private final int[] muddied = new int[CELLS];
        private int wet = 0;

        void rise(Ground ground, int level) {
            Arrays.fill(depth, 0);
            wet = 0;
            for (int cell = 0; cell < CELLS; cell++) {
                if (ground.traits[SPRING][cell] == 1) {
                    reach(ground, level, cell);
                }
            }
            for (int i = 0; i < wet && i < CELLS; i++) {
                for (int side = 0; side < SIDES; side++) {
                    int cell = cellAt(reached[i], side);
                    if (cell >= 0) {
                        reach(ground, level, cell);
                    }
                }
            }
        }

        private void reach(Ground ground, int level, int cell) {
            int deep = level - ground.top(cell);
            if (deep > 0 && depth[cell] == 0 && wet < CELLS) {
                depth[cell] = deep;
                reached[wet] = cell;
                wet++;
            }
        }

        int wetCells() {
            return wet;
        }

        int wetCellsOf(Laid laid) {
            int number = 0;
            for (int i = 0; i < laid.length; i++) {
                if (depth[laid.cells[i]] > 0) {
                    number++;
                }
            }
            return number;
        }

        int deepest(Laid laid) {
            int most = 0;
            for (int i = 0; i < laid.length; i++) {
                most = Math.max(most, depth[laid.cells[i]]);
            }
            return most;
        }

        /** Where each cell's mud goes is settled before any goes, since a flood looks at the ground ahead of it. */
        int carryMud(Ground ground) {
            int[] mud = ground.traits[MUD];
            for (int cell = 0; cell < CELLS; cell++) {
                boolean moves = depth[cell] > 0 && mud[cell] > 0;
                muddied[cell] = moves ? lowestNext(ground, cell) : -1;
            }
            int gone = 0;
            for (int cell = 0; cell < CELLS; cell++) {
                int to = muddied[cell];
                if (to >= 0 && mud[to] < MOST_MUD) {
                    mud[cell]--;
                    mud[to]++;
                    gone++;
                }
            }
            return gone;
        }

        private static int lowestNext(Ground ground, int cell) {
            int lowest = -1;
            int least = ground.top(cell);
            for (int side = 0; side < SIDES; side++) {
                int other = cellAt(cell, side);
                if (other >= 0 && ground.top(other) < least) {
                    least = ground.top(other);
                    lowest = other;
                }
            }
            return lowest;
        }
    }

    private static final class Villages {
        private final int[] cells = new int[MOST_VILLAGES];
        private final int[] loads = new int[MOST_VILLAGES];
        private int number = 0;

        void copy(Villages other) {
            System.arraycopy(other.cells, 0, cells, 0, MOST_VILLAGES);
            System.arraycopy(other.loads, 0, loads, 0, MOST_VILLAGES);
            number = other.number;
        }

        int add(int cell, int load) {
            if (number >= MOST_VILLAGES) {
                return FULL;
            }
            cells[number] = cell;
            loads[number] = load;
            number++;
            return number - 1;
        }

        int sets() {
            return 1 << number;
        }

        int loadsOf(int set) {
            int sum = 0;
            for (int i = 0; i < number; i++) {
                sum += loads[i] * (set >> i & 1);
            }
            return sum;
        }

        int servedFrom(int cell) {
            int set = 0;
            for (int i = 0; i < number; i++) {
                int rows = Math.abs(cells[i] / EDGE - cell / EDGE);
                int columns = Math.abs(cells[i] % EDGE - cell % EDGE);
                if (Math.max(rows, columns) <= 1) {
                    set |= 1 << i;
                }
            }
            return set;
        }
    }

    private static final class Laid {
        private final int[] cells = new int[MOST_ROAD];
        private int length = 0;

        void copy(Laid other) {
            System.arraycopy(other.cells, 0, cells, 0, MOST_ROAD);
            length = other.length;
        }

        void add(int cell) {
            if (length < MOST_ROAD) {
                cells[length] = cell;
                length++;
            }
        }

        int bends() {
            int number = 0;
            for (int i = 1; i + 1 < length; i++) {
                if (sideTo(cells[i - 1], cells[i]) != sideTo(cells[i], cells[i + 1])) {
                    number++;
                }
            }
            return number;
        }
    }

    /** The weights of the levels, and the draw of the weeks. */
    private static final class Weather {
        private final int[] weights = new int[MOST_LEVEL + 1];
        private int drawn = 1;

        void copy(Weather other) {
            System.arraycopy(other.weights, 0, weights, 0, MOST_LEVEL + 1);
            drawn = other.drawn;
        }

        int total() {
            return totalBelow(MOST_LEVEL + 1);
        }

        int totalBelow(int level) {
            int total = 0;
            for (int i = 0; i < level && i <= MOST_LEVEL; i++) {
                total += weights[i];
            }
            return total;
        }

        int nextLevel() {
            drawn = drawn * 1103515245 + 12345 & 0x7fffffff;
            int total = total();
            int ahead = total > 0 ? drawn / 65536 % total : 0;
            for (int level = 0; level < MOST_LEVEL; level++) {
                ahead -= weights[level];
                if (ahead < 0) {
                    return level;
                }
            }
            return MOST_LEVEL;
        }
    }

    /**
     * The cheapest roads. For each set a row tells, for each cell, the best road from it to the second end past all
     * of the set. Roads are weighed by one number, cost before length, so that one search settles both.
     */
    private static final class Plan {
        // A road passes each of 49 cells at most once for each set still left: it has fewer cells than the unit of cost.
        private static final int COST_UNIT = 4096, FAR = 1 << 30;

        private final int[] stepWeights = new int[CELLS];
        private final int[] served = new int[CELLS];
        private final int[][] best = new int[SETS][CELLS];
        private final boolean[] settled = new boolean[SETS];
        private final int[] queue = new int[CELLS];
        private final boolean[] queued = new boolean[CELLS];
        private int head = 0;
        private int waiting = 0;
        private int start = 0;
        private int goal = 0;

        void survey(int cell, int cost, int set) {
            stepWeights[cell] = cost * COST_UNIT + 1;
            served[cell] = set;
        }

        void begin(int first, int second) {
            start = first;
            goal = second;
            for (int set = 0; set < SETS; set++) {
                settled[set] = false;
            }
        }

        int costFor(int set) {
            settleParts(set);
            return best[set][start] / COST_UNIT;
        }

        int cellsFor(int set) {
            settleParts(set);
            return best[set][start] % COST_UNIT;
        }

        /** What a village costs, summed over all orders of a set. */
        long costInAllOrders(int set, int village) {
            int bit = 1 << village;
            int others = set & ~bit;
            int number = Integer.bitCount(others);
            long sum = 0;
            for (int ahead = 0; ahead <= others; ahead++) {
                if ((ahead & ~others) == 0) {
                    int size = Integer.bitCount(ahead);
                    // Nobody ahead costs nothing: the first one bears the whole road, not what it adds to the empty set's.
                    int before = ahead == 0 ? 0 : costFor(ahead);
                    long orders = ORDERS[size] * ORDERS[number - size];
                    sum += orders * (costFor(ahead | bit) - before);
                }
            }
            return sum;
        }

        void walk(int set, Laid laid) {
            settleParts(set);
            laid.length = 0;
            int cell = start;
            int left = set;
            for (int i = 0; i < MOST_ROAD && cell >= 0; i++) {
                laid.add(cell);
                int rest = best[left][cell] - stepWeights[cell];
                left &= ~served[cell];
                cell = rest == 0 ? -1 : firstWith(best[left], cell, rest);
            }
        }

        private static int firstWith(int[] row, int cell, int weight) {
            for (int side = 0; side < SIDES; side++) {
                int other = cellAt(cell, side);
                if (other >= 0 && row[other] == weight) {
                    return other;
                }
            }
            return -1;
        }

        /** A part comes ahead of every set that holds it when they are counted up. */
        private void settleParts(int set) {
            for (int part = 0; part <= set; part++) {
                if ((part & ~set) == 0 && !settled[part]) {
                    enter(best[part], part);
                    spread(best[part]);
                    settled[part] = true;
                }
            }
        }

        /** From a cell that serves some of the set the rest is a smaller set's matter, settled by now. */
        private void enter(int[] row, int set) {
            for (int cell = 0; cell < CELLS; cell++) {
                int left = set & ~served[cell];
                if (left == 0 && cell == goal) {
                    row[cell] = stepWeights[cell];
                } else if (left != set) {
                    row[cell] = leastNext(best[left], cell) + stepWeights[cell];
                } else {
                    row[cell] = FAR;
                }
            }
        }

        /** What a cell's road costs less by now, its neighbours may gain from: so each such cell waits for its turn. */
        private void spread(int[] row) {
            for (int cell = 0; cell < CELLS; cell++) {
                if (row[cell] < FAR) {
                    queueUp(cell);
                }
            }
            // In order of coming, all is settled behind at most one round for each cell.
            for (int i = 0; i < CELLS * CELLS && waiting > 0; i++) {
                int cell = queue[head];
                head = head + 1 < CELLS ? head + 1 : 0;
                waiting--;
                queued[cell] = false;
                for (int side = 0; side < SIDES; side++) {
                    ease(row, cellAt(cell, side), row[cell]);
                }
            }
        }

        private void ease(int[] row, int cell, int behind) {
            if (cell >= 0 && behind + stepWeights[cell] < row[cell]) {
                row[cell] = behind + stepWeights[cell];
                queueUp(cell);
            }
        }

        private void queueUp(int cell) {
            if (!queued[cell] && waiting < CELLS) {
                queued[cell] = true;
                queue[(head + waiting) % CELLS] = cell;
                waiting++;
            }
        }

        private static int leastNext(int[] row, int cell) {
            int least = FAR;
            for (int side = 0; side < SIDES; side++) {
                int other = cellAt(cell, side);
                if (other >= 0) {
                    least = Math.min(least, row[other]);
                }
            }
            return least;
        }
    }

    /** What has been typed, and the two kinds of text that it may be. */
    private static final class Tape {
        private final byte[] bytes = new byte[MOST_TAPE];
        private int length = 0;
        private int place = 0;

        static boolean canStand(long w, int n) {
            for (int i = 0; i < n; i++) {
                if (outside((int) (w >> 8 * i & 255), 32, 126)) {
                    return false;
                }
            }
            return true;
        }

        void append(long w, int n) {
            for (int i = n - 1; i >= 0 && length < MOST_TAPE; i--) {
                bytes[length] = (byte) (w >> 8 * i);
                length++;
            }
        }

        void clear() {
            length = 0;
            place = 0;
        }

        int readDelta(Ground into) {
            int told = 0;
            for (int row = 0; row < EDGE; row++) {
                if (row > 0 && !take('/')) {
                    return fault();
                }
                int columns = readRow(into, EDGE * row);
                if (columns == 0) {
                    return fault();
                }
                told += columns;
                if (ended()) {
                    return told;
                }
            }
            return fault();
        }

        private int readRow(Ground into, int from) {
            for (int column = 0; column < EDGE; column++) {
                int digit = takeDigit(9);
                if (digit < 0) {
                    return column;
                }
                int cell = from + column;
                into.traits[HEIGHT][cell] = 2 * digit;
                into.traits[MUD][cell] = 0;
                into.traits[KIND][cell] = take('m') ? 1 : take('r') ? 2 : take('c') ? 3 : 0;
                into.traits[BONES][cell] = take('b') ? 1 : 0;
                into.traits[SPRING][cell] = take('s') ? 1 : 0;
            }
            return EDGE;
        }

        int readVillages(Villages into) {
            into.number = 0;
            for (int i = 0; i < MOST_VILLAGES; i++) {
                if (i > 0 && !take(',')) {
                    return fault();
                }
                if (!readVillage(into)) {
                    return fault();
                }
                if (ended()) {
                    return into.number;
                }
            }
            return fault();
        }

        private boolean readVillage(Villages into) {
            int row = takeDigit(EDGE - 1);
            if (row < 0) {
                return false;
            }
            int column = takeDigit(EDGE - 1);
            if (column < 0 || !take(':')) {
                return false;
            }
            int load = takeNumber(MOST_LOADS);
            if (load < 0) {
                return false;
            }
            into.add(EDGE * row + column, load);
            return true;
        }

        private void skipBlanks() {
            while (place < length && bytes[place] == ' ') {
                place++;
            }
        }

        private boolean ended() {
            skipBlanks();
            return place >= length;
        }

        private int fault() {
            skipBlanks();
            return FIRST_FAULT - place;
        }

        private boolean take(char sign) {
            if (ended() || bytes[place] != sign) {
                return false;
            }
            place++;
            return true;
        }

        private static boolean isDigit(byte sign) {
            return sign >= '0' && sign <= '9';
        }

        private int takeDigit(int most) {
            if (ended() || !isDigit(bytes[place]) || bytes[place] - '0' > most) {
                return -1;
            }
            place++;
            return bytes[place - 1] - '0';
        }

        /** A number that may not be leaves the place at its first byte, where the fault then is. */
        private int takeNumber(int most) {
            skipBlanks();
            int first = place;
            int number = 0;
            while (place < length && isDigit(bytes[place])) {
                // Held just above what may be, so that a long row of digits does not wrap around.
                number = Math.min(10 * number + bytes[place] - '0', most + 1);
                place++;
            }
            if (number < 1 || number > most) {
                place = first;
                return -1;
            }
            return number;
        }
    }

    private static final class Sheets {
        private final boolean[] held = new boolean[SHEETS];
        private final int[] lanes = new int[SHEETS];
        private final int[] sizes = new int[SHEETS];
        private final int[][] items = new int[SHEETS][MOST_ITEMS];

        void renew(int sheet, int lane, int n) {
            held[sheet] = true;
            lanes[sheet] = lane;
            sizes[sheet] = n;
            Arrays.fill(items[sheet], 0);
        }

        /** 0, if the sheet has the told number of items of the lane from one on. */
        int refusal(int sheet, int lane, int from, int number) {
            if (!held[sheet]) {
                return NULL;
            }
            if (lanes[sheet] != lane) {
                return CAST;
            }
            return outside(from, 0, sizes[sheet] - number) ? INDEX : 0;
        }

        void put(int sheet, int i, int v) {
            switch (lanes[sheet]) {
                case BYTES:
                    items[sheet][i] = (byte) v;
                    break;
                case SHORTS:
                    items[sheet][i] = (short) v;
                    break;
                default:
                    items[sheet][i] = v;
                    break;
            }
        }

        /** The items of a part, where those of the whole set stand one behind the other. */
        long sum(int sheet, int from, int set, int part) {
            long sum = 0;
            int i = from;
            for (int village = 0; village < MOST_VILLAGES; village++) {
                if ((part >> village & 1) == 1) {
                    sum += items[sheet][i];
                }
                i += set >> village & 1;
            }
            return sum;
        }
    }
}
