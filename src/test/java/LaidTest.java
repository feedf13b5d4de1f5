import java.math.BigInteger;

/** Part 3 of the Terms and promises 18 to 31, the road that is laid: each sentence that names a boundary, by itself. */
public final class LaidTest {
    private static final Due due = new Due();
    private static final int BAD = -1, NOT = -2, FULL = -3, NONE = -4;
    private static final int MIN = Integer.MIN_VALUE, MAX = Integer.MAX_VALUE;

    public static void main(String[] args) {
        emptyAtFirst();
        fromAnyCell();
        stepFull();
        back();
        at();
        roadCost();
        roadServes();
        bends();
        mostWater();
        roadOfNothing();
        weightAndAxles();
        moreThanItBears();
        bearsByKind();
        bearsNothing();
        firstPlace();
        toll();
        moreThan3Water();
        goesAtTheLeast();
        goesAtNone();
        weights();
        oddsWithinWeeks();
        oddsInLowestTerms();
        oddsOfNoWeights();
        oddsAllElseAsItIs();
        theDraw();
        seeds();
        theOneThatFalls();
        weeksOneToSixty();
        weeksTillItGoes();
        weeksAheadOfTheFlood();
        weeksInNone();
        leave();
        image();
        imageIsNotTheTape();
        restore();
        due.end("LaidTest");
    }

    private static void emptyAtFirst() {
        due.says("THE LAID ROAD is a row of CELLS (.. empty at first)");
        Run x = new Run();
        due.is(x.count(1), 0);
        due.is(x.at(0), BAD);
        due.is(x.back(1), NOT);
        due.is(x.leave(), 0);
        due.is(x.goes(), NONE);
        due.is(x.sinks(999, 1), NONE);
        due.is(x.toll(9), 0);
    }

    private static void fromAnyCell() {
        due.says("told step by step (from any CELL to any)");
        for (int cell = 0; cell < 49; cell++) {
            Run x = new Run();
            due.is(x.step(cell), 1);
            due.is(x.at(0), cell);
        }
        due.says("each NEXT to the one before: the last one, also behind lay and back");
        Run x = new Run();
        x.lay(0);
        due.is(x.step(1), NOT);
        due.is(x.step(48), NOT);
        due.is(x.step(47), 14);
        due.is(x.back(2), 12);
        due.is(x.step(48), 13);
        due.is(x.step(47), 14);
        due.is(x.step(48), 15);
        due.is(x.at(14), 48);
        due.is(x.step(0), NOT);
        due.is(x.count(1), 15);
    }

    private static void stepFull() {
        due.says("step: FULL: 60");
        Run x = new Run();
        for (int i = 0; i < 60; i++) {
            due.is(x.step(i % 2 == 0 ? 24 : 25), i + 1);
        }
        due.is(x.step(24), FULL);
        due.is(x.step(18), FULL);
        due.is(x.count(1), 60);
        due.is(x.at(59), 25);
        due.is(x.back(1), 59);
        due.is(x.step(17), 60);
        due.is(x.at(59), 17);
        due.is(x.step(24), FULL);
    }

    private static void back() {
        due.says("The last n CELLS (1 .. 60) of the LAID ROAD go: how many it has");
        Run x = new Run().pacing(24, 25, 60);
        int[] wrong = {0, -1, 61, MIN, MAX};
        for (int n : wrong) {
            due.is(x.back(n), BAD);
        }
        due.is(x.count(1), 60);
        due.is(x.back(60), 0);
        due.is(x.count(1), 0);
        due.says("back: NOT: it has not so many");
        for (int n = 1; n <= 60; n++) {
            due.is(x.back(n), NOT);
        }
        x.steps(3, 4, 5);
        due.is(x.back(4), NOT);
        due.is(x.count(1), 3);
        due.is(x.back(3), 0);
        x.steps(3, 4, 5);
        due.is(x.back(1), 2);
        due.is(x.at(1), 4);
        due.is(x.at(2), BAD);
        due.is(x.back(2), 0);
        due.is(x.step(40), 1);
    }

    private static void at() {
        due.says("The i-th CELL of the LAID ROAD. BAD");
        Run x = new Run().pacing(24, 25, 59);
        int[] wrong = {-1, 59, 60, 61, MIN, MAX};
        for (int i : wrong) {
            due.is(x.at(i), BAD);
        }
        due.is(x.at(0), 24);
        due.is(x.at(58), 24);
        x.step(31);
        due.is(x.at(59), 31);
        due.is(x.at(60), BAD);
        x.back(59);
        due.is(x.at(0), 24);
        due.is(x.at(1), BAD);
    }

    private static void roadCost() {
        due.says("road: 0 COST (it costs each time)");
        Run x = new Run();
        x.delta("5m5c5r5/5b5mb5cb5rb");
        x.steps(0, 1, 2, 3);
        due.is(x.road(0), 3 + 6 + 2 + 1);
        x.steps(10, 9, 8, 7);
        due.is(x.road(0), 12 + 1 + 5 + 2 + 1);
        x.step(8);
        due.is(x.road(0), 23);
        Run y = new Run().pacing(0, 1, 60);
        due.is(y.road(0), 60);
        y.make(0, 2, 3);
        y.pile(0, 0, 0).spring(0).level(40);
        due.is(y.road(0), 30 * 46 + 30 * 36);
    }

    private static void roadServes() {
        due.says("road: 1 the VILLAGES it SERVES (a set)");
        Run x = new Run();
        x.villages("00:1,02:1,22:1,44:1,66:1,60:1");
        x.step(8);
        due.is(x.road(1), 7);
        x.step(15);
        due.is(x.road(1), 7);
        x.back(1);
        x.steps(9, 10, 17, 24);
        due.is(x.road(1), 8 + 7);
        x.back(5);
        due.is(x.road(1), 0);
        x.step(48);
        due.is(x.road(1), 16);
        x.villages("66:1");
        due.is(x.road(1), 1);
        x.villages("00:1");
        due.is(x.road(1), 0);
        due.is(x.village(48, 1), 1);
        due.is(x.road(1), 2);
    }

    private static void bends() {
        due.says("road: 2 BENDS (CELLS at which it goes on by another side than it came)");
        Run x = new Run();
        x.step(0);
        due.is(x.road(2), 0);
        x.step(1);
        due.is(x.road(2), 0);
        x.step(2);
        due.is(x.road(2), 0);
        x.step(9);
        due.is(x.road(2), 1);
        x.step(16);
        due.is(x.road(2), 1);
        x.step(15);
        due.is(x.road(2), 2);
        x.step(8);
        due.is(x.road(2), 3);
        x.step(9);
        due.is(x.road(2), 4);
        x.step(10);
        due.is(x.road(2), 4);
        x.step(17);
        due.is(x.road(2), 5);
        x.back(7);
        due.is(x.road(2), 0);
        due.says("goes on by another side than it came: back where it came from");
        x.step(1);
        due.is(x.road(2), 1);
        x.step(2);
        due.is(x.road(2), 2);
        Run y = new Run().pacing(24, 31, 60);
        due.is(y.road(2), 58);
    }

    private static void mostWater() {
        due.says("road: 3 the most WATER of its CELLS");
        Run x = new Run();
        x.pile(0, 0, 0).spring(0).pile(1, 3, 0).pile(2, 4, 0).pile(48, 0, 0);
        x.steps(1, 2);
        due.is(x.road(3), 0);
        x.level(4);
        due.is(x.road(3), 1);
        x.level(5);
        due.is(x.road(3), 2);
        x.level(40);
        due.is(x.road(3), 37);
        x.steps(1, 0);
        due.is(x.road(3), 40);
        x.back(2);
        due.is(x.road(3), 37);
        due.says("road: BAD");
        int[] wrong = {-1, 4, 5, MIN, MAX};
        for (int what : wrong) {
            due.is(x.road(what), BAD);
        }
    }

    private static void roadOfNothing() {
        due.says("Of the LAID ROAD: empty");
        Run x = new Run();
        x.village(0, 1);
        x.spring(0).level(40);
        for (int what = 0; what < 4; what++) {
            due.is(x.road(what), 0);
        }
        due.is(x.road(4), BAD);
        due.is(x.road(-1), BAD);
    }

    private static void weightAndAxles() {
        due.says("A CART of a WEIGHT (1 .. 999) with AXLES (1 .. 9): sinks: BAD");
        Run x = new Run();
        x.step(0);
        int[] noWeight = {0, 1000, -1, MIN, MAX};
        for (int weight : noWeight) {
            due.is(x.sinks(weight, 1), BAD);
            due.is(x.sinks(weight, 9), BAD);
            due.is(x.sinks(weight, 0), BAD);
        }
        int[] noAxles = {0, 10, -1, MIN, MAX};
        for (int axles : noAxles) {
            due.is(x.sinks(1, axles), BAD);
            due.is(x.sinks(999, axles), BAD);
            due.is(x.toll(axles), BAD);
        }
        due.is(x.sinks(1, 1), NONE);
        due.is(x.sinks(1, 9), NONE);
        due.is(x.sinks(999, 1), 0);
        due.is(x.sinks(999, 9), 0);
    }

    private static void moreThanItBears() {
        due.says("SINKS in a CELL of it, if WEIGHT by AXLES is more than it BEARS: 40");
        Run x = new Run();
        x.step(0);
        for (int axles = 1; axles <= 9; axles++) {
            due.is(x.sinks(40 * axles, axles), NONE);
            due.is(x.sinks(41 * axles - 1, axles), NONE);
            due.is(x.sinks(41 * axles, axles), 0);
        }
    }

    private static void bearsByKind() {
        due.says("BEARS: 40 less 4 times WATER; of MARSH and REED 10 less, of CHANNEL 20 less; with BONES 15 more");
        int[] byKind = {40, 30, 30, 20};
        Run x = new Run();
        x.spring(0);
        x.step(0);
        for (int kind = 0; kind < 4; kind++) {
            x.make(0, 2, kind);
            for (int bones = 0; bones < 2; bones++) {
                x.make(0, 3, bones);
                for (int water = 0; water < 5; water++) {
                    x.level(5 + water);
                    int bears = byKind[kind] + 15 * bones - 4 * water;
                    due.is(x.told(0, 7), bears);
                    due.is(x.sinks(bears, 1), NONE);
                    due.is(x.sinks(bears + 1, 1), 0);
                }
            }
        }
    }

    private static void bearsNothing() {
        due.says("7 what it BEARS (0 at least)");
        Run x = new Run();
        x.pile(0, 0, 0).spring(0);
        x.step(0);
        int[] byKind = {40, 30, 30, 20};
        for (int kind = 0; kind < 4; kind++) {
            x.make(0, 2, kind);
            for (int bones = 0; bones < 2; bones++) {
                x.make(0, 3, bones);
                int last = (byKind[kind] + 15 * bones) / 4;
                x.level(last);
                due.is(x.told(0, 7), byKind[kind] + 15 * bones - 4 * last);
                x.level(last + 1);
                due.is(x.told(0, 7), 0);
                due.is(x.sinks(1, 1), 0);
                due.is(x.sinks(8, 9), NONE);
                due.is(x.sinks(9, 9), 0);
                x.level(40);
                due.is(x.told(0, 7), 0);
                due.is(x.sinks(1, 1), 0);
                due.is(x.sinks(1, 2), NONE);
            }
        }
    }

    private static void firstPlace() {
        due.says("The first place of the LAID ROAD at which a CART SINKS. NONE");
        Run x = new Run();
        x.make(3, 2, 3);
        x.make(5, 2, 1);
        x.steps(0, 1, 2, 3, 4, 5, 4, 3);
        due.is(x.sinks(20, 1), NONE);
        due.is(x.sinks(21, 1), 3);
        due.is(x.sinks(41, 1), 0);
        x.make(3, 3, 1);
        due.is(x.sinks(31, 1), 5);
        due.is(x.sinks(30, 1), NONE);
        x.make(5, 2, 0);
        due.is(x.sinks(36, 1), 3);
        x.make(4, 2, 2);
        due.is(x.sinks(31, 1), 4);
        x.back(8);
        due.is(x.sinks(999, 1), NONE);
        Run y = new Run().pacing(24, 25, 59);
        y.step(31);
        y.make(31, 2, 1);
        due.is(y.sinks(31, 1), 59);
        due.is(y.sinks(40, 1), 59);
        due.is(y.sinks(30, 1), NONE);
    }

    private static void toll() {
        due.says("TOLL of a CART: 2 AXLES for each CELL of it that has WATER");
        Run x = new Run();
        x.pile(0, 4, 0).spring(0);
        x.steps(0, 1, 0, 1, 0);
        due.is(x.toll(1), 0);
        x.level(4);
        due.is(x.toll(1), 0);
        x.level(5);
        for (int axles = 1; axles <= 9; axles++) {
            due.is(x.toll(axles), 6 * axles);
        }
        x.level(6);
        due.is(x.toll(1), 10);
        due.is(x.toll(9), 90);
        x.level(40);
        due.is(x.toll(1), 10);
        x.leave();
        due.is(x.toll(9), 0);
        x.pacing(0, 1, 60);
        due.is(x.toll(9), 60 * 18);
        int[] wrong = {0, 10, -1, MIN, MAX};
        for (int axles : wrong) {
            due.is(x.toll(axles), BAD);
        }
    }

    private static void moreThan3Water() {
        due.says("THE LAID ROAD GOES at a LEVEL, if a CELL of it has more than 3 WATER then");
        Run x = new Run();
        x.pile(1, 0, 0).spring(0).spring(1);
        x.step(0);
        x.weight(8, 1);
        due.is(x.weeks(1), NONE);
        due.is(x.road(3), 3);
        due.is(x.odds(1, 0), 0);
        x.weight(8, 0);
        x.weight(9, 1);
        due.is(x.odds(1, 0), 1);
        due.is(x.weeks(1), 1);
        due.is(x.road(3), 4);
        due.is(x.goes(), 9);
        due.says("if a CELL of it: the first, the last, one between");
        x.step(1);
        due.is(x.goes(), 4);
        x.step(2);
        due.is(x.goes(), 4);
        x.back(3);
        x.step(1);
        due.is(x.goes(), 4);
        x.back(1);
        x.step(2);
        due.is(x.goes(), 9);
    }

    private static void goesAtTheLeast() {
        due.says("The least LEVEL (0 .. 40) at which the LAID ROAD GOES");
        for (int height = 0; height <= 20; height++) {
            Run x = new Run();
            x.make(0, 0, height);
            x.spring(0);
            x.step(0);
            due.is(x.goes(), height + 4);
            x.make(0, 1, 9);
            due.is(x.goes(), height + 13);
            due.is(x.count(6), 0);
        }
        Run y = new Run();
        y.pile(24, 20, 9).spring(24);
        y.step(0);
        due.is(y.goes(), 30);
        y.step(1);
        due.is(y.goes(), 30);
        y.level(40);
        due.is(y.goes(), 30);
        due.is(y.count(6), 40);
    }

    private static void goesAtNone() {
        due.says("goes: NONE: at none");
        Run x = new Run();
        due.is(x.goes(), NONE);
        x.step(24);
        due.is(x.goes(), NONE);
        x.level(40);
        due.is(x.goes(), NONE);
        x.spring(0);
        due.is(x.goes(), 9);
        x.back(1);
        due.is(x.goes(), NONE);
    }

    private static void weights() {
        due.says("WEEKS: each has one of the LEVELS 0 .. 40 by WEIGHTS (0 .. 9; 0 at first)");
        Run x = new Run();
        due.is(x.count(5), 0);
        for (int level = 0; level <= 40; level++) {
            due.is(x.weight(level, 9 - level % 10), 0);
        }
        due.is(x.count(5), 4 * 45 + 9);
        for (int level = 0; level <= 40; level++) {
            due.is(x.weight(level, 9), 9 - level % 10);
        }
        due.is(x.count(5), 369);
        due.says("weight: BAD");
        int[] noLevel = {-1, 41, MIN, MAX};
        for (int level : noLevel) {
            due.is(x.weight(level, 1), BAD);
        }
        int[] noWeight = {-1, 10, MIN, MAX};
        for (int v : noWeight) {
            due.is(x.weight(0, v), BAD);
            due.is(x.weight(40, v), BAD);
        }
        due.is(x.count(5), 369);
        due.is(x.weight(40, 0), 9);
        due.is(x.weight(0, 0), 9);
        due.is(x.count(5), 351);
    }

    private static void odds(Run x, int n, long above, long below) {
        due.is(x.odds(n, 0), above);
        due.is(x.odds(n, 1), below);
    }

    private static void oddsWithinWeeks() {
        due.says("ODDS that it GOES within n WEEKS (1 .. 6)");
        Run x = new Run();
        x.spring(24);
        x.step(24);
        x.weight(8, 2);
        x.weight(9, 1);
        long below = 1;
        long staying = 1;
        for (int n = 1; n <= 6; n++) {
            below *= 3;
            staying *= 2;
            odds(x, n, below - staying, below);
        }
        due.says("odds: BAD");
        int[] noWeeks = {0, 7, -1, MIN, MAX};
        for (int n : noWeeks) {
            due.is(x.odds(n, 0), BAD);
            due.is(x.odds(n, 1), BAD);
        }
        int[] noPart = {-1, 2, MIN, MAX};
        for (int part : noPart) {
            due.is(x.odds(1, part), BAD);
        }
        due.says("ODDS that it GOES: at the LEVELS 0 .. 40");
        x.weight(8, 0);
        x.weight(9, 0);
        x.weight(0, 3);
        x.weight(40, 1);
        odds(x, 1, 1, 4);
        odds(x, 2, 7, 16);
        x.pile(24, 0, 0);
        odds(x, 1, 1, 4);
    }

    private static void oddsInLowestTerms() {
        due.says("fractions in lowest terms");
        Run x = new Run();
        x.weight(0, 6);
        x.weight(20, 2);
        odds(x, 1, 0, 1);
        odds(x, 6, 0, 1);
        x.step(24);
        odds(x, 6, 0, 1);
        x.spring(24);
        odds(x, 1, 1, 4);
        odds(x, 2, 7, 16);
        x.weight(0, 0);
        odds(x, 1, 1, 1);
        odds(x, 6, 1, 1);
        x.weight(0, 9);
        x.weight(20, 9);
        odds(x, 1, 1, 2);
        odds(x, 6, 63, 64);
        for (int level = 0; level <= 40; level++) {
            x.weight(level, 9);
        }
        // It goes at 9 .. 40: 32 of 41.
        odds(x, 1, 32, 41);
        BigInteger all = BigInteger.valueOf(41).pow(6);
        odds(x, 6, all.subtract(BigInteger.valueOf(9).pow(6)).longValueExact(), all.longValueExact());
        x.weight(40, 8);
        all = BigInteger.valueOf(368).pow(6);
        BigInteger gone = all.subtract(BigInteger.valueOf(81).pow(6));
        BigInteger common = gone.gcd(all);
        odds(x, 6, gone.divide(common).longValueExact(), all.divide(common).longValueExact());
    }

    private static void oddsOfNoWeights() {
        due.says("odds, weeks: NOT: there are no WEIGHTS");
        Run x = new Run();
        x.spring(24);
        x.step(24);
        for (int n = 1; n <= 6; n++) {
            odds(x, n, NOT, NOT);
            due.is(x.weeks(n), NOT);
        }
        due.is(x.weeks(60), NOT);
        x.weight(40, 1);
        odds(x, 1, 1, 1);
        x.weight(40, 0);
        odds(x, 1, NOT, NOT);
        due.is(x.weeks(1), NOT);
        due.is(x.seed(1), 1);
        due.is(x.count(6), 0);
        x.weight(0, 1);
        odds(x, 1, 0, 1);
        due.is(x.weeks(1), NONE);
    }

    private static void oddsAllElseAsItIs() {
        due.says("odds: (all else as it is, no FLOODS)");
        Run x = new Run();
        // Behind one flood the road's cell would be lower by one and go.
        x.pile(24, 5, 3).spring(24);
        x.step(24);
        x.level(3);
        x.weight(11, 1);
        odds(x, 6, 0, 1);
        due.is(x.told(24, 1), 3);
        due.is(x.count(6), 3);
        due.is(x.seed(1), 1);
        due.is(x.goes(), 12);
        due.is(x.weeks(6), 2);
    }

    private static void theDraw() {
        due.says("THE DRAW is a number of 31 bits (1 at first)");
        Run x = new Run();
        x.weight(0, 1);
        due.is(x.seed(1), 1);
        due.says("it becomes the lowest 31 bits of itself times 1103515245 and 12345 more");
        int[] from = {0, 1, 2, 12345, 65535, 65536, 1 << 30, MAX - 1, MAX};
        for (int seed : from) {
            x.seed(seed);
            x.weeks(1);
            BigInteger then = BigInteger.valueOf(seed).multiply(BigInteger.valueOf(1103515245)).add(BigInteger.valueOf(12345));
            due.is(x.seed(7), then.mod(BigInteger.ONE.shiftLeft(31)).longValueExact());
        }
        due.says("for each WEEK");
        x.seed(1);
        x.weeks(3);
        due.is(x.seed(0), 662824084);
        x.weeks(1);
        due.is(x.seed(1), 12345);
    }

    private static void seeds() {
        due.says("THE DRAW becomes v: what it was. BAD: below 0");
        Run x = new Run();
        due.is(x.seed(0), 1);
        due.is(x.seed(-1), BAD);
        due.is(x.seed(MAX), 0);
        due.is(x.seed(MIN), BAD);
        due.is(x.seed(-1), BAD);
        due.is(x.seed(5), MAX);
        due.is(x.seed(5), 5);
    }

    private static void theOneThatFalls() {
        due.says("as a remainder by all WEIGHTS, is how many of these, counted through from LEVEL 0 on, lie ahead");
        Run x = new Run();
        x.weight(4, 5);
        x.weight(7, 6);
        x.weight(30, 4);
        // The draw behind the r-th of these seeds leaves a remainder of r by 15.
        int[] seeds = {0, 42, 3, 46, 7, 36, 11, 26, 1, 16, 5, 6, 9, 10, 39};
        for (int r = 0; r < 15; r++) {
            x.seed(seeds[r]);
            due.is(x.weeks(1), NONE);
            due.is(x.count(6), r < 5 ? 4 : r < 11 ? 7 : 30);
        }
        due.says("counted through from LEVEL 0 on: the first and the last of the LEVELS");
        x.weight(4, 0);
        x.weight(7, 0);
        x.weight(30, 0);
        x.weight(0, 7);
        x.weight(40, 8);
        for (int r = 0; r < 15; r++) {
            x.seed(seeds[r]);
            x.weeks(1);
            due.is(x.count(6), r < 7 ? 0 : 40);
        }
        due.says("as a remainder by all WEIGHTS: one, the most");
        x.weight(0, 0);
        x.weight(40, 0);
        x.weight(23, 1);
        x.seed(3);
        x.weeks(1);
        due.is(x.count(6), 23);
        for (int level = 0; level <= 40; level++) {
            x.weight(level, 9);
        }
        int[] remainders = {0, 233, 170, 35, 341, 205, 143, 7, 313, 177, 115, 348};
        for (int seed = 0; seed < remainders.length; seed++) {
            x.seed(seed);
            x.weeks(1);
            due.is(x.count(6), remainders[seed] / 9);
        }
        due.says("that by 65536 (cut)");
        x.seed(1);
        x.weight(40, 8);
        x.weeks(1);
        // 1103527590 by 65536 is 16838 and a rest; by 368 that leaves 278.
        due.is(x.count(6), 278 / 9);
    }

    private static void weeksOneToSixty() {
        due.says("n WEEKS (1 .. 60), DRAWN, one behind the other. BAD");
        Run x = new Run();
        x.weight(3, 1);
        int[] wrong = {0, -1, 61, 62, MIN, MAX};
        for (int n : wrong) {
            due.is(x.weeks(n), BAD);
            due.is(x.seed(1), 1);
            due.is(x.count(6), 0);
        }
        due.is(x.weeks(1), NONE);
        due.is(x.seed(1), 1103527590);
        due.is(x.weeks(60), NONE);
        long draw = 1;
        for (int i = 0; i < 60; i++) {
            draw = (draw * 1103515245L + 12345L) % (1L << 31);
        }
        due.is(x.seed(1), draw);
    }

    private static void weeksTillItGoes() {
        due.says("till the LAID ROAD GOES in one: in which (1 ..)");
        Run x = new Run();
        x.spring(24);
        x.step(24);
        x.weight(9, 1);
        due.is(x.weeks(60), 1);
        due.is(x.seed(1), 1103527590);
        due.is(x.weeks(1), 1);
        // By 4: 2, 2, 1, 3: the fourth week is that of the highest.
        x.weight(9, 0);
        x.weight(0, 3);
        x.weight(20, 1);
        due.is(x.seed(1), 1103527590);
        due.is(x.weeks(3), NONE);
        due.is(x.count(6), 0);
        x.seed(1);
        due.is(x.weeks(4), 4);
        due.is(x.count(6), 20);
        due.is(x.seed(1), 1147902781);
        due.is(x.weeks(60), 4);
        due.is(x.seed(1), 1147902781);
    }

    private static void weeksAheadOfTheFlood() {
        due.says("(ahead of its FLOOD; it has this FLOOD, too)");
        Run x = new Run();
        // At 11 a cell of 8 has 3 water, and behind the first flood 4.
        x.pile(24, 5, 3).spring(24);
        x.step(24);
        x.weight(11, 1);
        due.is(x.weeks(1), NONE);
        due.is(x.told(24, 1), 2);
        due.is(x.road(3), 4);
        due.is(x.weeks(1), 1);
        due.is(x.told(24, 1), 1);
        due.is(x.count(3), 3);
        Run y = new Run();
        y.pile(24, 5, 3).spring(24);
        y.step(24);
        y.weight(11, 1);
        due.is(y.weeks(60), 2);
        due.is(y.told(24, 1), 1);
        due.is(y.count(6), 11);
        due.says("THE LEVEL becomes so; then there is a FLOOD");
        Run z = new Run();
        z.pile(24, 5, 5).spring(24);
        z.level(20);
        z.weight(10, 1);
        due.is(z.weeks(1), NONE);
        due.is(z.told(24, 1), 5);
        z.weight(10, 0);
        z.weight(11, 1);
        due.is(z.weeks(1), NONE);
        due.is(z.told(24, 1), 4);
    }

    private static void weeksInNone() {
        due.says("weeks: NONE: in none");
        Run x = new Run();
        x.spring(24);
        x.weight(40, 1);
        due.is(x.weeks(60), NONE);
        due.is(x.count(6), 40);
        x.step(24);
        x.weight(40, 0);
        x.weight(8, 9);
        due.is(x.weeks(60), NONE);
        due.is(x.count(6), 8);
        x.make(24, 4, 0);
        x.weight(40, 9);
        due.is(x.weeks(60), NONE);
    }

    private static void leave() {
        due.says("The LAID ROAD is given up (it is empty then), its CELLS have BONES: how many of them had none");
        Run x = new Run();
        due.is(x.leave(), 0);
        due.is(x.count(4), 0);
        x.step(48);
        due.is(x.leave(), 1);
        due.is(x.count(1), 0);
        due.is(x.count(4), 1);
        due.is(x.told(48, 3), 1);
        due.is(x.leave(), 0);
        x.lay(0);
        due.is(x.leave(), 12);
        due.is(x.count(4), 13);
        due.is(x.told(0, 3), 1);
        due.is(x.told(7, 3), 0);
        x.lay(0);
        due.is(x.leave(), 0);
        x.pacing(42, 43, 60);
        due.is(x.leave(), 2);
        due.is(x.count(4), 15);
        due.is(x.step(30), 1);
        due.is(x.told(30, 3), 0);
    }

    private static void image() {
        due.says("All but SHEETS, THE TAPE is kept as an IMAGE: 1. All is as it was then: 1");
        Run x = new Run();
        x.pile(3, 7, 2).make(3, 2, 1);
        x.make(3, 3, 1);
        x.spring(3);
        x.level(12);
        x.villages("12:34,56:7");
        x.ends(5, 6);
        x.steps(10, 11);
        x.weight(0, 4);
        x.weight(40, 5);
        x.seed(99);
        due.is(x.image(), 1);
        x.delta("000000/0s");
        x.level(1);
        x.villages("00:1");
        x.ends(1, 2);
        x.leave();
        x.steps(20, 21, 22);
        x.weight(0, 1);
        x.weight(40, 0);
        x.weight(20, 9);
        x.seed(5);
        due.is(x.restore(), 1);
        int[] cell = {7, 2, 1, 1, 1, 3, 5, 33};
        for (int what = 0; what < 8; what++) {
            due.is(x.told(3, what), cell[what]);
        }
        due.is(x.told(7, 0), 5);
        due.is(x.told(7, 4), 0);
        due.is(x.told(10, 3), 0);
        int[] counts = {2, 2, 49, 2, 1, 9, 12};
        for (int what = 0; what < 7; what++) {
            due.is(x.count(what), counts[what]);
        }
        due.is(x.of(0, 0), 9);
        due.is(x.of(0, 1), 34);
        due.is(x.of(1, 0), 41);
        due.is(x.of(1, 1), 7);
        due.is(x.at(0), 10);
        due.is(x.at(1), 11);
        due.is(x.at(2), BAD);
        due.is(x.ends(0, 0), 506);
        due.is(x.seed(0), 99);
        due.is(x.weight(0, 0), 4);
        due.is(x.weight(20, 0), 0);
        due.is(x.weight(40, 0), 5);
    }

    private static void imageIsNotTheTape() {
        due.says("All but SHEETS, THE TAPE");
        Run x = new Run();
        x.village(0, 1);
        x.typed("12");
        x.sheet(0, 0, 3);
        x.items(0, 0, 1, 99, 1);
        x.image();
        due.is(x.type('3', 1), 3);
        x.item(0, 0, 0, 99);
        x.sheet(1, 2, 5);
        due.is(x.restore(), 1);
        due.is(x.type('4', 1), 4);
        due.is(x.delta(), 4);
        due.is(x.leaves(1, 0, 0, 0), 1);
        due.is(x.leaves(1, 0, 0, 2), NONE);
        due.is(x.drop(1), 5);
        due.is(x.restore(), 1);
        due.is(x.delta(), -20);
        due.is(x.drop(1), -11);
        due.is(x.drop(0), 3);
    }

    private static void restore() {
        due.says("restore: NONE: there is none");
        Run x = new Run();
        x.level(7);
        due.is(x.restore(), NONE);
        due.is(x.count(6), 7);
        due.is(x.image(), 1);
        due.is(x.restore(), 1);
        due.is(x.count(6), 7);
        due.says("All is as it was then: as often as it likes, the last image");
        for (int i = 0; i < 3; i++) {
            x.level(20 + i);
            x.village(i, 1);
            due.is(x.restore(), 1);
            due.is(x.count(6), 7);
            due.is(x.count(0), 0);
        }
        x.level(9);
        due.is(x.image(), 1);
        x.level(11);
        due.is(x.restore(), 1);
        due.is(x.count(6), 9);
        due.says("All is as it was then: water and roads, too");
        x.spring(0);
        due.is(x.count(2), 49);
        due.is(x.cheapest(0), 13 * 5);
        due.is(x.restore(), 1);
        due.is(x.count(2), 0);
        due.is(x.cheapest(0), 13);
    }
}
