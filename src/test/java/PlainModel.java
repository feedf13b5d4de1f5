import java.math.BigInteger;
import java.util.ArrayList;
import java.util.Arrays;
import java.util.List;
import java.util.PriorityQueue;

/** The document once more, in other ways than the class takes: slow, with the whole Java library, nothing kept. */
final class PlainModel {
    static final int BAD = -1, NOT = -2, FULL = -3, NONE = -4, NULL = -11, CAST = -12, INDEX = -13, SIZE = -14;

    static final class Cell {
        int height = 5, mud = 0, kind = 0, bones = 0, spring = 0;

        Cell copy() {
            Cell c = new Cell();
            c.height = height;
            c.mud = mud;
            c.kind = kind;
            c.bones = bones;
            c.spring = spring;
            return c;
        }
    }

    static final class State {
        Cell[] cells = new Cell[49];
        int level = 0, first = 0, second = 48;
        long draw = 1;
        List<int[]> villages = new ArrayList<>();
        List<Integer> road = new ArrayList<>();
        int[] weights = new int[41];

        State copy() {
            State s = new State();
            for (int i = 0; i < 49; i++) {
                s.cells[i] = cells[i].copy();
            }
            s.level = level;
            s.first = first;
            s.second = second;
            s.draw = draw;
            s.villages = new ArrayList<>(villages);
            s.road = new ArrayList<>(road);
            s.weights = weights.clone();
            return s;
        }
    }

    State s = new State();
    State image = null;
    String tape = "";
    Object[] sheets = new Object[4];

    PlainModel() {
        for (int i = 0; i < 49; i++) {
            s.cells[i] = new Cell();
        }
    }

    static boolean in(int v, int lo, int hi) {
        return lo <= v && v <= hi;
    }

    static List<Integer> near(int cell) {
        List<Integer> all = new ArrayList<>();
        int r = cell / 7, c = cell % 7;
        int[][] moves = {{-1, 0}, {0, -1}, {0, 1}, {1, 0}};
        for (int[] m : moves) {
            if (in(r + m[0], 0, 6) && in(c + m[1], 0, 6)) {
                all.add((r + m[0]) * 7 + c + m[1]);
            }
        }
        return all;
    }

    int top(int cell) {
        return s.cells[cell].height + s.cells[cell].mud;
    }

    boolean[] wetAt(int level) {
        boolean[] wet = new boolean[49];
        boolean more = true;
        while (more) {
            more = false;
            for (int i = 0; i < 49; i++) {
                if (wet[i] || top(i) >= level) {
                    continue;
                }
                boolean reached = s.cells[i].spring == 1;
                for (int n : near(i)) {
                    reached |= wet[n];
                }
                if (reached) {
                    wet[i] = true;
                    more = true;
                }
            }
        }
        return wet;
    }

    int[] waterAt(int level) {
        boolean[] wet = wetAt(level);
        int[] water = new int[49];
        for (int i = 0; i < 49; i++) {
            water[i] = wet[i] ? level - top(i) : 0;
        }
        return water;
    }

    int[] costs() {
        int[] water = waterAt(s.level);
        int[] cost = new int[49];
        for (int i = 0; i < 49; i++) {
            int k = new int[] {1, 3, 2, 6}[s.cells[i].kind];
            cost[i] = Math.max(1, k + water[i] - (s.cells[i].bones == 1 ? 1 : 0));
        }
        return cost;
    }

    int bears(int cell) {
        int b = 40 - 4 * waterAt(s.level)[cell];
        if (s.cells[cell].kind == 1 || s.cells[cell].kind == 2) {
            b -= 10;
        }
        if (s.cells[cell].kind == 3) {
            b -= 20;
        }
        if (s.cells[cell].bones == 1) {
            b += 15;
        }
        return b < 0 ? 0 : b;
    }

    int make(int cell, int what, int v) {
        if (!in(cell, 0, 48) || !in(what, 0, 4)) {
            return BAD;
        }
        Cell c = s.cells[cell];
        int was;
        switch (what) {
            case 0:
                if (!in(v, 0, 20)) {
                    return BAD;
                }
                was = c.height;
                c.height = v;
                return was;
            case 1:
                if (!in(v, 0, 9)) {
                    return BAD;
                }
                was = c.mud;
                c.mud = v;
                return was;
            case 2:
                if (!in(v, 0, 3)) {
                    return BAD;
                }
                was = c.kind;
                c.kind = v;
                return was;
            case 3:
                if (!in(v, 0, 1)) {
                    return BAD;
                }
                was = c.bones;
                c.bones = v;
                return was;
            default:
                if (!in(v, 0, 1)) {
                    return BAD;
                }
                was = c.spring;
                c.spring = v;
                return was;
        }
    }

    int told(int cell, int what) {
        if (!in(cell, 0, 48) || !in(what, 0, 7)) {
            return BAD;
        }
        Cell c = s.cells[cell];
        int[] plain = {c.height, c.mud, c.kind, c.bones, c.spring, waterAt(s.level)[cell], costs()[cell],
            bears(cell)};
        return plain[what];
    }

    int wetCount() {
        int n = 0;
        for (boolean w : wetAt(s.level)) {
            n += w ? 1 : 0;
        }
        return n;
    }

    int level(int v) {
        if (!in(v, 0, 40)) {
            return BAD;
        }
        s.level = v;
        return wetCount();
    }

    int flood() {
        State old = s.copy();
        boolean[] wet = wetAt(s.level);
        int moved = 0;
        for (int i = 0; i < 49; i++) {
            if (!wet[i] || old.cells[i].mud == 0) {
                continue;
            }
            int to = -1, least = 1000;
            for (int n : near(i)) {
                int t = old.cells[n].height + old.cells[n].mud;
                if (t < least) {
                    least = t;
                    to = n;
                }
            }
            if (least < old.cells[i].height + old.cells[i].mud && s.cells[to].mud != 9) {
                s.cells[i].mud--;
                s.cells[to].mud++;
                moved++;
            }
        }
        return moved;
    }

    int type(long w, int n) {
        if (!in(n, 1, 8)) {
            return BAD;
        }
        StringBuilder b = new StringBuilder();
        for (int i = 8 - n; i < 8; i++) {
            int v = (int) (w << 8 * i >>> 56);
            if (!in(v, 32, 126)) {
                return BAD;
            }
            b.append((char) v);
        }
        if (tape.length() + n > 140) {
            return FULL;
        }
        tape += b;
        return tape.length();
    }

    /** By a table of what may stand behind what: 0 a row's start, 1 digit, 2 kind, 3 bones, 4 spring. */
    int delta() {
        String text = tape;
        tape = "";
        Cell[] draft = s.copy().cells;
        int row = 0, column = 0, was = 0, told = 0;
        for (int i = 0; i < text.length(); i++) {
            char ch = text.charAt(i);
            if (ch == ' ') {
                continue;
            }
            int cell = row * 7 + column - 1;
            if (ch >= '0' && ch <= '9' && column < 7) {
                draft[cell + 1] = new Cell();
                draft[cell + 1].height = 2 * (ch - '0');
                column++;
                told++;
                was = 1;
            } else if ("mrc".indexOf(ch) >= 0 && was == 1) {
                draft[cell].kind = "mrc".indexOf(ch) + 1;
                was = 2;
            } else if (ch == 'b' && (was == 1 || was == 2)) {
                draft[cell].bones = 1;
                was = 3;
            } else if (ch == 's' && in(was, 1, 3)) {
                draft[cell].spring = 1;
                was = 4;
            } else if (ch == '/' && was != 0 && row < 6) {
                row++;
                column = 0;
                was = 0;
            } else {
                return -20 - i;
            }
        }
        if (was == 0) {
            return -20 - text.length();
        }
        s.cells = draft;
        return told;
    }

    /** States: 0 row, 1 column, 2 colon, 3 a number's start, 4 behind a number. */
    int villages() {
        String text = tape;
        tape = "";
        List<int[]> draft = new ArrayList<>();
        int state = 0, row = 0, column = 0;
        for (int i = 0; i < text.length(); i++) {
            char ch = text.charAt(i);
            if (ch == ' ') {
                continue;
            }
            if (state < 2 && ch >= '0' && ch <= '6') {
                if (state == 0) {
                    row = ch - '0';
                } else {
                    column = ch - '0';
                }
                state++;
            } else if (state == 2 && ch == ':') {
                state = 3;
            } else if (state == 3 && Character.isDigit(ch)) {
                int j = i;
                while (j < text.length() && Character.isDigit(text.charAt(j))) {
                    j++;
                }
                BigInteger n = new BigInteger(text.substring(i, j));
                if (n.signum() == 0 || n.compareTo(BigInteger.valueOf(99)) > 0) {
                    return -20 - i;
                }
                draft.add(new int[] {row * 7 + column, n.intValue()});
                i = j - 1;
                state = 4;
            } else if (state == 4 && ch == ',' && draft.size() < 6) {
                state = 0;
            } else {
                return -20 - i;
            }
        }
        if (state != 4) {
            return -20 - text.length();
        }
        s.villages = draft;
        return draft.size();
    }

    int count(int what) {
        int mud = 0, bones = 0;
        for (Cell c : s.cells) {
            mud += c.mud;
            bones += c.bones;
        }
        int[] all = {s.villages.size(), s.road.size(), wetCount(), mud, bones, Arrays.stream(s.weights).sum(), s.level};
        return in(what, 0, 6) ? all[what] : BAD;
    }

    int village(int cell, int loads) {
        if (!in(cell, 0, 48) || !in(loads, 1, 99)) {
            return BAD;
        }
        if (s.villages.size() == 6) {
            return FULL;
        }
        s.villages.add(new int[] {cell, loads});
        return s.villages.size() - 1;
    }

    int of(int village, int what) {
        if (!in(village, 0, s.villages.size() - 1) || !in(what, 0, 1)) {
            return BAD;
        }
        return s.villages.get(village)[what];
    }

    int ends(int first, int second) {
        if (!in(first, 0, 48) || !in(second, 0, 48)) {
            return BAD;
        }
        int was = s.first * 100 + s.second;
        s.first = first;
        s.second = second;
        return was;
    }

    boolean isSet(int set) {
        return set >= 0 && set < 1 << s.villages.size();
    }

    int serves(int cell) {
        int set = 0;
        for (int i = 0; i < s.villages.size(); i++) {
            int v = s.villages.get(i)[0];
            if (in(v / 7 - cell / 7, -1, 1) && in(v % 7 - cell % 7, -1, 1)) {
                set += 1 << i;
            }
        }
        return set;
    }

    /** A road so far, held by its sides as a text so that texts' order is theirs. */
    record Way(int cell, int set, int cost, String sides, List<Integer> cells) implements Comparable<Way> {
        @Override
        public int compareTo(Way o) {
            if (cost != o.cost) {
                return Integer.compare(cost, o.cost);
            }
            if (cells.size() != o.cells.size()) {
                return Integer.compare(cells.size(), o.cells.size());
            }
            return sides.compareTo(o.sides);
        }
    }

    /** From the first end on, by whole roads, the best first. */
    Way best(int set) {
        int[] cost = costs();
        PriorityQueue<Way> open = new PriorityQueue<>();
        boolean[][] closed = new boolean[49][64];
        open.add(new Way(s.first, serves(s.first) & set, cost[s.first], "", List.of(s.first)));
        while (!open.isEmpty()) {
            Way w = open.poll();
            if (closed[w.cell][w.set]) {
                continue;
            }
            closed[w.cell][w.set] = true;
            if (w.cell == s.second && w.set == set) {
                return w;
            }
            for (int n : near(w.cell)) {
                int d = n - w.cell;
                String side = d == -7 ? "0" : d == -1 ? "1" : d == 1 ? "2" : "3";
                List<Integer> on = new ArrayList<>(w.cells);
                on.add(n);
                open.add(new Way(n, w.set | serves(n) & set, w.cost + cost[n], w.sides + side, on));
            }
        }
        throw new IllegalStateException();
    }

    int cheapest(int set) {
        return isSet(set) ? best(set).cost : BAD;
    }

    int worth(int set) {
        if (!isSet(set)) {
            return -100001;
        }
        int sum = 0;
        for (int i = 0; i < s.villages.size(); i++) {
            if ((set & 1 << i) != 0) {
                sum += s.villages.get(i)[1];
            }
        }
        return sum - best(set).cost;
    }

    int vote() {
        int vote = 0, most = Integer.MIN_VALUE;
        for (int set = (1 << s.villages.size()) - 1; set >= 0; set--) {
            int w = worth(set);
            if (w >= most) {
                most = w;
                vote = set;
            }
        }
        return vote;
    }

    /** In all: {sum over orders, orders}. */
    private void join(List<Integer> left, int ahead, int village, int[] known, long[] sums) {
        if (left.isEmpty()) {
            sums[1]++;
        }
        for (int v : left) {
            List<Integer> rest = new ArrayList<>(left);
            rest.remove((Integer) v);
            int with = ahead | 1 << v;
            if (v == village) {
                int orders = 1;
                for (int i = 2; i <= rest.size(); i++) {
                    orders *= i;
                }
                sums[0] += (long) orders * (known[with] - (ahead == 0 ? 0 : known[ahead]));
            }
            join(rest, with, village, known, sums);
        }
    }

    int share(int set, int village, int part) {
        if (!isSet(set) || !in(village, 0, s.villages.size() - 1) || !in(part, 0, 1)) {
            return BAD;
        }
        if ((set & 1 << village) == 0) {
            return BAD;
        }
        int[] known = new int[64];
        List<Integer> all = new ArrayList<>();
        for (int p = 1; p <= set; p++) {
            if ((p | set) == set) {
                known[p] = best(p).cost;
            }
        }
        for (int i = 0; i < 6; i++) {
            if ((set & 1 << i) != 0) {
                all.add(i);
            }
        }
        long[] sums = new long[2];
        join(all, 0, village, known, sums);
        BigInteger a = BigInteger.valueOf(sums[0]), b = BigInteger.valueOf(sums[1]), g = a.gcd(b);
        return (part == 0 ? a : b).divide(g).intValue();
    }

    int lay(int set) {
        if (!isSet(set)) {
            return BAD;
        }
        Way w = best(set);
        if (w.cells.size() > 60) {
            return FULL;
        }
        s.road = new ArrayList<>(w.cells);
        return s.road.size();
    }

    int step(int cell) {
        if (!in(cell, 0, 48)) {
            return BAD;
        }
        int n = s.road.size();
        if (n > 0 && !near(cell).contains(s.road.get(n - 1))) {
            return NOT;
        }
        if (n == 60) {
            return FULL;
        }
        s.road.add(cell);
        return n + 1;
    }

    int back(int n) {
        if (!in(n, 1, 60)) {
            return BAD;
        }
        if (s.road.size() < n) {
            return NOT;
        }
        s.road = new ArrayList<>(s.road.subList(0, s.road.size() - n));
        return s.road.size();
    }

    int at(int i) {
        return in(i, 0, s.road.size() - 1) ? s.road.get(i) : BAD;
    }

    int road(int what) {
        int cost = 0, set = 0, bends = 0, most = 0, came = 0;
        for (int i = 0; i < s.road.size(); i++) {
            int c = s.road.get(i);
            cost += costs()[c];
            set |= serves(c);
            most = Math.max(most, waterAt(s.level)[c]);
            if (i > 0) {
                int goes = c - s.road.get(i - 1);
                if (i > 1 && goes != came) {
                    bends++;
                }
                came = goes;
            }
        }
        return in(what, 0, 3) ? new int[] {cost, set, bends, most}[what] : BAD;
    }

    int sinks(int weight, int axles) {
        if (!in(weight, 1, 999) || !in(axles, 1, 9)) {
            return BAD;
        }
        for (int i = 0; i < s.road.size(); i++) {
            if (weight / axles > bears(s.road.get(i))) {
                return i;
            }
        }
        return NONE;
    }

    int toll(int axles) {
        if (!in(axles, 1, 9)) {
            return BAD;
        }
        int toll = 0;
        for (int c : s.road) {
            toll += wetAt(s.level)[c] ? 2 * axles : 0;
        }
        return toll;
    }

    boolean goesAt(int level) {
        int[] water = waterAt(level);
        for (int c : s.road) {
            if (water[c] > 3) {
                return true;
            }
        }
        return false;
    }

    int goes() {
        for (int level = 0; level <= 40; level++) {
            if (goesAt(level)) {
                return level;
            }
        }
        return NONE;
    }

    int weight(int level, int v) {
        if (!in(level, 0, 40) || !in(v, 0, 9)) {
            return BAD;
        }
        int was = s.weights[level];
        s.weights[level] = v;
        return was;
    }

    long odds(int n, int part) {
        if (!in(n, 1, 6) || !in(part, 0, 1)) {
            return BAD;
        }
        int all = count(5), bad = 0;
        if (all == 0) {
            return NOT;
        }
        for (int level = 0; level <= 40; level++) {
            bad += goesAt(level) ? s.weights[level] : 0;
        }
        // Week by week: gone by now, and still there.
        BigInteger gone = BigInteger.ZERO, here = BigInteger.ONE;
        for (int i = 0; i < n; i++) {
            gone = gone.multiply(BigInteger.valueOf(all)).add(here.multiply(BigInteger.valueOf(bad)));
            here = here.multiply(BigInteger.valueOf(all - bad));
        }
        BigInteger below = BigInteger.valueOf(all).pow(n), g = gone.gcd(below);
        return (part == 0 ? gone : below).divide(g).longValueExact();
    }

    int weeks(int n) {
        if (!in(n, 1, 60)) {
            return BAD;
        }
        if (count(5) == 0) {
            return NOT;
        }
        List<Integer> lots = new ArrayList<>();
        for (int level = 0; level <= 40; level++) {
            for (int i = 0; i < s.weights[level]; i++) {
                lots.add(level);
            }
        }
        for (int week = 1; week <= n; week++) {
            s.draw = BigInteger.valueOf(s.draw).multiply(BigInteger.valueOf(1103515245))
                .add(BigInteger.valueOf(12345)).mod(BigInteger.ONE.shiftLeft(31)).longValueExact();
            s.level = lots.get((int) (s.draw / 65536 % lots.size()));
            boolean gone = goesAt(s.level);
            flood();
            if (gone) {
                return week;
            }
        }
        return NONE;
    }

    int seed(int v) {
        if (v < 0) {
            return BAD;
        }
        int was = (int) s.draw;
        s.draw = v;
        return was;
    }

    int leave() {
        int before = count(4);
        for (int c : s.road) {
            s.cells[c].bones = 1;
        }
        s.road = new ArrayList<>();
        return count(4) - before;
    }

    int image() {
        image = s.copy();
        return 1;
    }

    int restore() {
        if (image == null) {
            return NONE;
        }
        s = image.copy();
        return 1;
    }

    private static int size(Object sheet) {
        return java.lang.reflect.Array.getLength(sheet);
    }

    private int refusal(int sheet, int lane, long from, int number) {
        if (sheets[sheet] == null) {
            return NULL;
        }
        Class<?>[] lanes = {byte[].class, short[].class, int[].class};
        if (sheets[sheet].getClass() != lanes[lane]) {
            return CAST;
        }
        return from < 0 || from + number > size(sheets[sheet]) ? INDEX : 0;
    }

    private void put(int sheet, int i, int v) {
        Object row = sheets[sheet];
        if (row instanceof byte[] b) {
            b[i] = (byte) v;
        } else if (row instanceof short[] h) {
            h[i] = (short) v;
        } else if (row instanceof int[] w) {
            w[i] = v;
        }
    }

    int leaves(int set, int sheet, int lane, int from) {
        if (!isSet(set) || set == 0 || !in(sheet, 0, 3) || !in(lane, 0, 2)) {
            return BAD;
        }
        int no = refusal(sheet, lane, from, Integer.bitCount(set));
        if (no != 0) {
            return no;
        }
        long[] told = new long[6];
        int i = from;
        for (int v = 0; v < 6; v++) {
            if ((set & 1 << v) != 0) {
                told[v] = java.lang.reflect.Array.getLong(sheets[sheet], i++);
            }
        }
        for (int p = 1; p < 64; p++) {
            if ((p | set) != set) {
                continue;
            }
            long sum = 0;
            for (int v = 0; v < 6; v++) {
                sum += (p & 1 << v) != 0 ? told[v] : 0;
            }
            if (sum > best(p).cost) {
                return p;
            }
        }
        return NONE;
    }

    int sheet(int sheet, int lane, int n) {
        if (!in(sheet, 0, 3) || !in(lane, 0, 2) || n > 24) {
            return BAD;
        }
        if (n < 0) {
            return SIZE;
        }
        sheets[sheet] = lane == 0 ? new byte[n] : lane == 1 ? new short[n] : new int[n];
        return n;
    }

    int drop(int sheet) {
        if (!in(sheet, 0, 3)) {
            return BAD;
        }
        if (sheets[sheet] == null) {
            return NULL;
        }
        int n = size(sheets[sheet]);
        sheets[sheet] = null;
        return n;
    }

    int item(int sheet, int lane, int i, int v) {
        if (!in(sheet, 0, 3) || !in(lane, 0, 2)) {
            return BAD;
        }
        int no = refusal(sheet, lane, i, 1);
        if (no == 0) {
            put(sheet, i, v);
        }
        return no == 0 ? 1 : no;
    }

    int film(int row, int sheet, int lane, int from) {
        if (!in(row, 0, 6) || !in(sheet, 0, 3) || !in(lane, 0, 2)) {
            return BAD;
        }
        int no = refusal(sheet, lane, from, 7);
        for (int i = 0; no == 0 && i < 7; i++) {
            put(sheet, from + i, waterAt(s.level)[row * 7 + i]);
        }
        return no == 0 ? 7 : no;
    }
}
