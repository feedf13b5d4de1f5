/** Promises 1 to 5 and 9, the delta: each sentence that names a boundary, by itself. */
public final class DeltaTest {
    private static final Due due = new Due();
    private static final int BAD = -1, NONE = -4, NULL = -11;
    private static final int MIN = Integer.MIN_VALUE, MAX = Integer.MAX_VALUE;

    public static void main(String[] args) {
        newObject();
        newObjectsAreApart();
        makeAnswersWhatItWas();
        makeRefused();
        makeIsSeenAtOnce();
        toldRefused();
        toldOfWater();
        levelAnswersWetCells();
        levelRefused();
        floodAnswersHowMuch();
        counts();
        countsRefused();
        due.end("DeltaTest");
    }

    private static void newObject() {
        due.says("Dry ground of 5, no villages");
        Run x = new Run();
        int[] plain = {5, 0, 0, 0, 0, 0, 1, 40};
        for (int cell = 0; cell < 49; cell++) {
            for (int what = 0; what < 8; what++) {
                due.is(x.told(cell, what), plain[what]);
            }
        }
        for (int what = 0; what < 7; what++) {
            due.is(x.count(what), 0);
        }
        Run y = new Run();
        for (int level = 0; level <= 40; level++) {
            due.is(y.weight(level, 1), 0);
        }
        for (int sheet = 0; sheet < 4; sheet++) {
            due.is(y.drop(sheet), NULL);
        }
        due.is(y.ends(0, 0), 48);
        due.is(y.seed(0), 1);
        due.is(y.restore(), NONE);
        due.is(y.of(0, 0), BAD);
        due.is(y.at(0), BAD);
        due.is(y.delta(), -20);
        due.is(y.villages(), -20);
        due.is(y.type('1', 1), 1);
        due.is(y.flood(), 0);
        due.is(y.vote(), 0);
    }

    private static void newObjectsAreApart() {
        due.says("A new object: whatever others did");
        Run x = new Run();
        x.pile(0, 9, 9).spring(0).make(0, 2, 3);
        x.make(0, 3, 1);
        x.level(30);
        x.villages("00:1");
        x.ends(4, 5);
        x.step(3);
        x.weight(3, 3);
        x.seed(3);
        x.sheet(0, 0, 3);
        x.image();
        x.typed("3");
        newObject();
        due.is(x.told(0, 0), 9);
        due.is(x.delta(), 1);
        due.is(x.restore(), 1);
    }

    private static void makeAnswersWhatItWas() {
        due.says("0 HEIGHT, 1 MUD, 2 KIND, 3 BONES, 4 a SPRING (0, 1) becomes v: what it was");
        Run x = new Run();
        int[] first = {5, 0, 0, 0, 0};
        int[] then = {20, 9, 3, 1, 1};
        int[] cells = {0, 6, 42, 48};
        for (int cell : cells) {
            for (int what = 0; what < 5; what++) {
                due.is(x.make(cell, what, then[what]), first[what]);
                due.is(x.make(cell, what, then[what]), then[what]);
                due.is(x.make(cell, what, 0), then[what]);
                due.is(x.make(cell, what, then[what]), 0);
            }
            for (int what = 0; what < 5; what++) {
                due.is(x.told(cell, what), then[what]);
                due.is(x.told(24, what), first[what]);
            }
        }
    }

    private static void makeRefused() {
        due.says("make: BAD");
        Run x = new Run();
        int[] noCells = {-1, 49, 50, -49, MIN, MAX};
        int[] nothing = {-1, 5, 6, 7, MIN, MAX};
        int[] most = {20, 9, 3, 1, 1};
        for (int cell : noCells) {
            for (int what = 0; what < 5; what++) {
                due.is(x.make(cell, what, 1), BAD);
            }
        }
        for (int what : nothing) {
            due.is(x.make(0, what, 0), BAD);
            due.is(x.make(48, what, 1), BAD);
        }
        for (int what = 0; what < 5; what++) {
            int[] noV = {-1, most[what] + 1, 21, 255, MIN, MAX};
            for (int v : noV) {
                due.is(x.make(48, what, v), BAD);
            }
        }
    }

    private static void makeIsSeenAtOnce() {
        due.says("becomes v: WATER, WET, COST, BEARS with it");
        Run x = new Run();
        x.level(6);
        due.is(x.count(2), 0);
        x.make(0, 4, 1);
        due.is(x.count(2), 49);
        due.is(x.told(48, 5), 1);
        due.is(x.told(48, 6), 2);
        due.is(x.told(48, 7), 36);
        x.make(48, 1, 1);
        due.is(x.count(2), 48);
        due.is(x.told(48, 5), 0);
        due.is(x.told(48, 6), 1);
        due.is(x.told(48, 7), 40);
        x.make(48, 2, 3);
        due.is(x.told(48, 6), 6);
        due.is(x.told(48, 7), 20);
        x.make(48, 3, 1);
        due.is(x.told(48, 6), 5);
        due.is(x.told(48, 7), 35);
        x.make(48, 0, 0);
        due.is(x.told(48, 5), 5);
        due.is(x.told(48, 6), 10);
        due.is(x.told(48, 7), 15);
        x.make(0, 4, 0);
        due.is(x.count(2), 0);
        due.is(x.told(48, 5), 0);
    }

    private static void toldRefused() {
        due.says("told: BAD");
        Run x = new Run();
        int[] noCells = {-1, 49, -49, MIN, MAX};
        int[] nothing = {-1, 8, 9, MIN, MAX};
        for (int cell : noCells) {
            for (int what = 0; what < 8; what++) {
                due.is(x.told(cell, what), BAD);
            }
        }
        for (int what : nothing) {
            due.is(x.told(0, what), BAD);
            due.is(x.told(48, what), BAD);
        }
        due.is(x.told(0, 0), 5);
        due.is(x.told(48, 7), 40);
    }

    private static void toldOfWater() {
        due.says("5 WATER, 6 COST, 7 what it BEARS (0 at least)");
        Run x = new Run();
        x.pile(24, 0, 0).spring(24);
        int[][] want = {{0, 0, 1, 40}, {1, 1, 2, 36}, {9, 9, 10, 4}, {10, 10, 11, 0}, {11, 11, 12, 0}, {40, 40, 41, 0}};
        for (int[] w : want) {
            x.level(w[0]);
            for (int what = 5; what < 8; what++) {
                due.is(x.told(24, what), w[what - 4]);
            }
        }
    }

    private static void levelAnswersWetCells() {
        due.says("THE LEVEL becomes v: how many CELLS are WET then");
        Run x = new Run();
        due.is(x.level(0), 0);
        due.is(x.level(40), 0);
        x.delta("0123456s");
        // The spring has 12: below 13 nothing hangs together with it.
        for (int level = 0; level <= 12; level++) {
            due.is(x.level(level), 0);
        }
        due.is(x.level(13), 49);
        x.make(6, 4, 0);
        x.spring(0);
        int[] rising = {0, 1, 1, 2, 2, 3};
        for (int level = 0; level < rising.length; level++) {
            due.is(x.level(level), rising[level]);
        }
        // Above 5 the ground below the first row is wet, too; 3 .. 6 of it stand at 6, 8, 10, 12.
        int[] more = {45, 46, 46, 47, 47, 48, 48, 49};
        for (int level = 6; level < 14; level++) {
            due.is(x.level(level), more[level - 6]);
        }
        due.is(x.level(6), 45);
        due.is(x.level(6), 45);
        due.is(x.level(0), 0);
    }

    private static void levelRefused() {
        due.says("level: BAD");
        Run x = new Run();
        x.spring(0);
        x.level(7);
        int[] wrong = {-1, 41, 42, -40, MIN, MAX};
        for (int v : wrong) {
            due.is(x.level(v), BAD);
            due.is(x.count(6), 7);
            due.is(x.count(2), 49);
        }
    }

    private static void floodAnswersHowMuch() {
        due.says("A FLOOD: how much MUD goes");
        Run x = new Run();
        due.is(x.flood(), 0);
        x.spring(0).level(40);
        due.is(x.flood(), 0);
        for (int cell = 0; cell < 49; cell += 2) {
            x.make(cell, 1, 9);
        }
        due.is(x.flood(), 25);
        due.is(x.count(3), 225);
        for (int cell = 0; cell < 49; cell++) {
            x.make(cell, 1, 9);
        }
        due.is(x.flood(), 0);
        due.is(x.count(3), 441);
        due.says("A FLOOD: water is seen with it");
        Run y = new Run().flat(9);
        y.pile(0, 5, 4).spring(0).pile(1, 5, 1);
        y.level(10);
        due.is(y.told(0, 5), 1);
        due.is(y.told(1, 5), 4);
        due.is(y.flood(), 1);
        due.is(y.told(0, 5), 2);
        due.is(y.told(1, 5), 3);
        due.is(y.flood(), 1);
        due.is(y.told(0, 5), 3);
        due.is(y.told(1, 5), 2);
        // Now the other one is the higher.
        due.is(y.flood(), 1);
        due.is(y.told(0, 5), 2);
        due.is(y.told(1, 5), 3);
    }

    private static void counts() {
        due.says("How many: 0 VILLAGES, 1 CELLS of the LAID ROAD, 2 WET CELLS, 3 MUD, 4 BONES, 5 WEIGHTS, 6 THE LEVEL");
        Run x = new Run();
        for (int cell = 0; cell < 49; cell++) {
            x.make(cell, 1, 9);
            x.make(cell, 3, 1);
        }
        x.spring(0);
        x.level(40);
        x.villages("00:1,00:1,00:1,00:1,00:1,00:1");
        x.pacing(0, 1, 60);
        for (int level = 0; level <= 40; level++) {
            x.weight(level, 9);
        }
        int[] most = {6, 60, 49, 441, 49, 369, 40};
        for (int what = 0; what < 7; what++) {
            due.is(x.count(what), most[what]);
        }
        x.make(0, 1, 0);
        x.make(0, 3, 0);
        x.back(60);
        x.villages("00:1");
        x.weight(0, 0);
        x.make(0, 4, 0);
        int[] then = {1, 0, 0, 432, 48, 360, 40};
        for (int what = 0; what < 7; what++) {
            due.is(x.count(what), then[what]);
        }
    }

    private static void countsRefused() {
        due.says("count: BAD");
        Run x = new Run();
        int[] wrong = {-1, 7, 8, MIN, MAX};
        for (int what : wrong) {
            due.is(x.count(what), BAD);
        }
        due.is(x.count(0), 0);
        due.is(x.count(6), 0);
    }
}
