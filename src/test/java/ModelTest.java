import java.util.Random;

/** Random runs of calls, answered by the class and by the plain model alike. */
public final class ModelTest {
    private static final int[] EDGES = {Integer.MIN_VALUE, -100, -2, -1, 7, 41, 49, 50, 61, 64, 100, 1000, Integer.MAX_VALUE};
    private static final String[] DELTAS = {"0s1234", "5mb", " 3 r s", "0cs0c/9b9/", "1s1s1s1s1s1s1s/2m2r2c/3/4/5/6/7bs",
        "4/4/4/4/4/4/4/4", "x", "12345678", "9cbs8mbs/7rb", "2ms2ms/0c0c0c0c0c0c0cbs"};
    private static final String[] VILLAGES = {"00:1", "66:99,06:10", "12:20,23:30,34:40,45:50,56:60,65:70", " 3 3 : 12 , 55:09",
        "11:100", "11:5 5", "11:5,", "22:7,22:7,22:7", "70:1", "01:1,01:1,01:1,01:1,01:1,01:1,01:1", "33:"};
    /** Of an object's 512 calls: those kept to look at all in the end, and the most that one turn makes. */
    private static final int CALLS_TO_LOOK = 120, CALLS_OF_A_TURN = 70;
    private static final String SIGNS = "0123456789mrcbs/:, ";

    private final Random random;
    private final Due due;
    private Run x = new Run();
    private PlainModel m = new PlainModel();
    private String run = "";

    private ModelTest(long seed, Due due) {
        this.random = new Random(seed);
        this.due = due;
        this.run = "seed " + seed;
    }

    public static void main(String[] args) {
        Due due = new Due();
        int runs = args.length > 0 ? Integer.parseInt(args[0]) : 1200;
        for (int seed = 0; seed < runs && due.wrong() == 0; seed++) {
            ModelTest test = new ModelTest(seed, due);
            test.start();
            for (int i = 0; test.x.left() > CALLS_TO_LOOK + CALLS_OF_A_TURN && due.wrong() == 0; i++) {
                test.turn(i);
            }
            test.look();
        }
        due.end("ModelTest");
    }

    private int pick(int least, int most) {
        if (random.nextInt(25) == 0) {
            return EDGES[random.nextInt(EDGES.length)];
        }
        if (random.nextInt(25) == 0) {
            return random.nextBoolean() ? least - 1 : most + 1;
        }
        return least + random.nextInt(Math.max(1, most - least + 1));
    }

    private int set() {
        return pick(0, (1 << m.s.villages.size()) - 1);
    }

    private void start() {
        if (random.nextInt(8) == 0) {
            return;
        }
        int shape = random.nextInt(4);
        if (shape == 3) {
            startByText();
        } else {
            startByCells(shape);
        }
        int number = random.nextInt(7);
        for (int i = 0; i < number; i++) {
            int cell = random.nextInt(49), loads = 1 + random.nextInt(99);
            due.is(run + " village", x.village(cell, loads), m.village(cell, loads));
        }
    }

    /** A text as long as the tape, cut off somewhere in its last row. */
    private void startByText() {
        StringBuilder b = new StringBuilder();
        for (int row = 0; row < 7; row++) {
            b.append(row == 0 ? "" : "/");
            for (int column = 0; column < 7; column++) {
                b.append(random.nextInt(random.nextBoolean() ? 10 : 4));
                b.append(new String[] {"", "", "m", "r", "c", "b", "s", "ms", "cb", "rbs"}[random.nextInt(10)]);
            }
        }
        text(b.substring(0, Math.min(b.length(), 140)));
        due.is(run + " start", x.delta(), m.delta());
        for (int cell = random.nextInt(3); cell < 49; cell += 1 + random.nextInt(3)) {
            both(cell, 1, random.nextInt(10));
        }
    }

    private void startByCells(int shape) {
        for (int cell = 0; cell < 49; cell++) {
            both(cell, 0, shape == 0 ? random.nextInt(21) : shape == 1 ? random.nextInt(4) : 5);
            both(cell, 1, random.nextInt(3) == 0 ? random.nextInt(10) : random.nextInt(2));
            both(cell, 2, random.nextInt(shape == 2 ? 2 : 4));
            both(cell, 3, random.nextInt(4) == 0 ? 1 : 0);
            both(cell, 4, random.nextInt(6) == 0 ? 1 : 0);
        }
    }

    private void both(int cell, int what, int v) {
        due.is(run + " make", x.make(cell, what, v), m.make(cell, what, v));
    }

    private void text(String text) {
        for (int i = 0; i < text.length(); i += 8) {
            String part = text.substring(i, Math.min(text.length(), i + 8));
            long w = Run.bytes(part);
            due.is(run + " type", x.type(w, part.length()), m.type(w, part.length()));
        }
    }

    private String scramble(String text) {
        StringBuilder b = new StringBuilder(text);
        for (int i = random.nextInt(3); i > 0; i--) {
            int at = random.nextInt(b.length() + 1);
            char sign = SIGNS.charAt(random.nextInt(SIGNS.length()));
            if (random.nextBoolean() || at == b.length()) {
                b.insert(at, sign);
            } else {
                b.setCharAt(at, sign);
            }
        }
        return b.toString();
    }

    private void turn(int i) {
        int kind = random.nextInt(40);
        String name = run + " turn " + i + " kind " + kind;
        if (kind < 20) {
            ground(name, kind);
        } else {
            rest(name, kind);
        }
    }

    private void ground(String name, int kind) {
        int a = pick(0, 48), b, c;
        switch (kind) {
            case 0:
                b = pick(0, 4);
                c = pick(0, b == 0 ? 20 : b == 1 ? 9 : b == 2 ? 3 : 1);
                due.is(name, x.make(a, b, c), m.make(a, b, c));
                break;
            case 1:
                b = pick(0, 7);
                due.is(name, x.told(a, b), m.told(a, b));
                break;
            case 2:
                b = random.nextBoolean() ? pick(0, 40) : random.nextInt(16);
                due.is(name, x.level(b), m.level(b));
                break;
            case 3:
                due.is(name, x.flood(), m.flood());
                break;
            case 4:
                b = pick(1, 8);
                long w = random.nextInt(3) > 0 ? Run.bytes("3m3s/4 b") : random.nextLong();
                due.is(name, x.type(w, b), m.type(w, b));
                break;
            case 5:
            case 6:
                due.is(name, x.delta(), m.delta());
                String d = scramble(DELTAS[random.nextInt(DELTAS.length)]);
                text(d);
                due.is(name + " " + d, x.delta(), m.delta());
                break;
            case 7:
            case 8:
                due.is(name, x.villages(), m.villages());
                String v = scramble(VILLAGES[random.nextInt(VILLAGES.length)]);
                text(v);
                due.is(name + " " + v, x.villages(), m.villages());
                break;
            case 9:
                b = pick(0, 6);
                due.is(name, x.count(b), m.count(b));
                break;
            case 10:
                b = pick(1, 99);
                due.is(name, x.village(a, b), m.village(a, b));
                break;
            case 11:
                b = pick(0, m.s.villages.size());
                c = pick(0, 1);
                due.is(name, x.of(b, c), m.of(b, c));
                break;
            case 12:
                b = random.nextInt(4) == 0 ? a : pick(0, 48);
                due.is(name, x.ends(a, b), m.ends(a, b));
                break;
            default:
                villages(name, kind);
                break;
        }
    }

    private void villages(String name, int kind) {
        int set = set();
        switch (kind) {
            case 13:
                due.is(name, x.cheapest(set), m.cheapest(set));
                break;
            case 14:
                due.is(name, x.worth(set), m.worth(set));
                break;
            case 15:
                due.is(name, x.vote(), m.vote());
                break;
            case 16:
                int v = pick(0, 5), p = pick(0, 1);
                due.is(name, x.share(set, v, p), m.share(set, v, p));
                break;
            default:
                due.is(name, x.lay(set), m.lay(set));
                due.is(name + " cost", x.road(0), m.road(0));
                for (int i = -1; i <= 60; i++) {
                    due.is(name + " at " + i, x.at(i), m.at(i));
                }
                break;
        }
    }

    private void rest(String name, int kind) {
        int a, b;
        switch (kind) {
            case 20:
            case 21:
                for (int i = random.nextInt(12); i >= 0; i--) {
                    int n = m.s.road.size();
                    a = n == 0 ? pick(0, 48) : pick(0, 48 * 60) == 0 ? 48 : step(m.s.road.get(n - 1));
                    due.is(name, x.step(a), m.step(a));
                }
                break;
            case 22:
                a = random.nextBoolean() ? pick(1, 60) : 1 + random.nextInt(4);
                due.is(name, x.back(a), m.back(a));
                break;
            case 23:
                a = pick(0, 60);
                due.is(name, x.at(a), m.at(a));
                break;
            case 24:
                a = pick(0, 3);
                due.is(name, x.road(a), m.road(a));
                break;
            case 25:
                a = random.nextBoolean() ? pick(1, 999) : 1 + random.nextInt(random.nextBoolean() ? 9 : 80);
                b = pick(1, 9);
                due.is(name, x.sinks(a, b), m.sinks(a, b));
                break;
            case 26:
                a = pick(1, 9);
                due.is(name, x.toll(a), m.toll(a));
                break;
            case 27:
                due.is(name, x.goes(), m.goes());
                break;
            case 28:
            case 29:
                a = pick(0, 40);
                b = pick(0, 9);
                due.is(name, x.weight(a, b), m.weight(a, b));
                break;
            case 30:
                a = pick(1, 6);
                b = pick(0, 1);
                due.is(name, x.odds(a, b), m.odds(a, b));
                break;
            default:
                late(name, kind);
                break;
        }
    }

    private int step(int from) {
        int[] moves = {-7, -1, 1, 7, 0, 8};
        return from + moves[random.nextInt(random.nextInt(6) == 0 ? 6 : 4)];
    }

    private void late(String name, int kind) {
        int a, b, sheet = pick(0, 3), lane = pick(0, 2);
        if (PlainModel.in(sheet, 0, 3) && m.sheets[sheet] != null && random.nextInt(4) > 0) {
            Object row = m.sheets[sheet];
            lane = row instanceof byte[] ? 0 : row instanceof short[] ? 1 : 2;
        }
        switch (kind) {
            case 31:
                a = pick(1, 60);
                due.is(name, x.weeks(a), m.weeks(a));
                break;
            case 32:
                a = random.nextInt();
                due.is(name, x.seed(a), m.seed(a));
                break;
            case 33:
                due.is(name, x.leave(), m.leave());
                break;
            case 34:
                due.is(name, x.image(), m.image());
                break;
            case 35:
                due.is(name, x.restore(), m.restore());
                break;
            case 36:
                a = set();
                b = random.nextInt(3) > 0 ? 0 : pick(0, 24);
                due.is(name, x.leaves(a, sheet, lane, b), m.leaves(a, sheet, lane, b));
                break;
            case 37:
                a = random.nextInt(8) == 0 ? x.drop(sheet) - m.drop(sheet) : 0;
                due.is(name + " drop", a, 0);
                b = random.nextBoolean() ? 24 : pick(0, 24);
                due.is(name, x.sheet(sheet, lane, b), m.sheet(sheet, lane, b));
                break;
            case 38:
                for (int i = 0; i < 6; i++) {
                    a = random.nextInt(3) > 0 ? random.nextInt(30) : random.nextInt();
                    b = random.nextInt(3) > 0 ? i : pick(0, 23);
                    due.is(name, x.item(sheet, lane, b, a), m.item(sheet, lane, b, a));
                }
                break;
            default:
                a = pick(0, 6);
                b = random.nextInt(3) > 0 ? 0 : pick(0, 17);
                due.is(name, x.film(a, sheet, lane, b), m.film(a, sheet, lane, b));
                break;
        }
    }

    /** What can be asked without changing anything, by as many calls as are left. */
    private void look() {
        String name = run + " look";
        for (int what = 0; what < 7; what++) {
            due.is(name + " count " + what, x.count(what), m.count(what));
        }
        for (int what = 0; what < 4; what++) {
            due.is(name + " road " + what, x.road(what), m.road(what));
        }
        for (int i = 0; i < m.s.villages.size(); i++) {
            due.is(name + " cell of " + i, x.of(i, 0), m.of(i, 0));
            due.is(name + " loads of " + i, x.of(i, 1), m.of(i, 1));
        }
        for (int i = 0; i < m.s.road.size(); i += 1 + random.nextInt(3)) {
            due.is(name + " at " + i, x.at(i), m.at(i));
        }
        while (x.left() > 0) {
            int cell = random.nextInt(49), what = random.nextInt(8);
            due.is(name + " told " + cell + " " + what, x.told(cell, what), m.told(cell, what));
        }
    }
}
