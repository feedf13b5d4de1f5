/** Promises 32 to 36, sheets that may be missing: each sentence that names a boundary, by itself. */
public final class SheetsTest {
    private static final Due due = new Due();
    private static final int BAD = -1, NONE = -4, NULL = -11, CAST = -12, INDEX = -13, SIZE = -14;
    private static final int MIN = Integer.MIN_VALUE, MAX = Integer.MAX_VALUE;
    private static final int[] NO_SHEETS = {-1, 4, MIN, MAX}, NO_LANES = {-1, 3, MIN, MAX};

    public static void main(String[] args) {
        nothingAtFirst();
        lanes();
        sizes();
        newRows();
        newRowsAreOf0();
        drops();
        itemsByIndex();
        lowestBits();
        partsThatLeave();
        leastPart();
        notEmpty();
        oneItemForEach();
        fromOneOn();
        sharesFarAway();
        leavesRefused();
        filmOfRows();
        filmFromOneOn();
        filmInLanes();
        filmRefused();
        due.end("SheetsTest");
    }

    private static void nothingAtFirst() {
        due.says("sheets 0 .. 3: nothing (at first)");
        for (int sheet = 0; sheet < 4; sheet++) {
            Run x = new Run();
            x.village(0, 1);
            for (int lane = 0; lane < 3; lane++) {
                due.is(x.item(sheet, lane, 0, 0), NULL);
                due.is(x.film(0, sheet, lane, 0), NULL);
                due.is(x.leaves(1, sheet, lane, 0), NULL);
            }
            due.is(x.drop(sheet), NULL);
            due.is(x.sheet(sheet, 1, 2), 2);
            for (int other = 0; other < 4; other++) {
                due.is(x.drop(other), other == sheet ? 2 : NULL);
            }
        }
    }

    private static void lanes() {
        due.says("CAST -12 (of SHEETS another LANE): 0 bytes, 1 shorts, 2 ints");
        Run x = new Run();
        x.village(0, 1);
        for (int lane = 0; lane < 3; lane++) {
            x.sheet(lane, lane, 7);
        }
        for (int sheet = 0; sheet < 3; sheet++) {
            for (int lane = 0; lane < 3; lane++) {
                due.is(x.item(sheet, lane, 0, 1), sheet == lane ? 1 : CAST);
                due.is(x.leaves(1, sheet, lane, 0), sheet == lane ? NONE : CAST);
                due.is(x.film(0, sheet, lane, 0), sheet == lane ? 7 : CAST);
            }
            due.is(x.drop(sheet), 7);
        }
    }

    private static void sizes() {
        due.says("of 0 to 24 items: A SHEET holds a new row of a LANE: n. BAD: also n above 24; SIZE: n below 0");
        Run x = new Run();
        for (int n = 0; n <= 24; n++) {
            due.is(x.sheet(n % 4, n % 3, n), n);
            due.is(x.item(n % 4, n % 3, n, 0), INDEX);
            due.is(x.item(n % 4, n % 3, n - 1, 0), n > 0 ? 1 : INDEX);
        }
        int[] above = {25, 26, 1000, MAX};
        int[] below = {-1, -2, -24, MIN};
        for (int lane = 0; lane < 3; lane++) {
            for (int n : above) {
                due.is(x.sheet(0, lane, n), BAD);
            }
            for (int n : below) {
                due.is(x.sheet(0, lane, n), SIZE);
            }
        }
        due.is(x.drop(0), 24);
        for (int no : NO_SHEETS) {
            due.is(x.sheet(no, 0, 1), BAD);
            due.is(x.sheet(no, 0, -1), BAD);
        }
        for (int no : NO_LANES) {
            due.is(x.sheet(0, no, 1), BAD);
            due.is(x.sheet(0, no, -1), BAD);
        }
        due.is(x.drop(0), NULL);
        due.is(x.sheet(0, 2, -1), SIZE);
        due.is(x.drop(0), NULL);
    }

    private static void newRows() {
        due.says("A SHEET holds a new row of a LANE");
        Run x = new Run();
        x.village(0, 1);
        for (int lane = 0; lane < 3; lane++) {
            x.sheet(2, lane, 24);
            due.is(x.leaves(1, 2, lane, 23), NONE);
            x.item(2, lane, 0, 99);
            x.item(2, lane, 23, 99);
            due.is(x.leaves(1, 2, lane, 0), 1);
            due.is(x.leaves(1, 2, lane, 23), 1);
            x.sheet(2, lane, 24);
            due.is(x.leaves(1, 2, lane, 0), NONE);
            due.is(x.leaves(1, 2, lane, 23), NONE);
            x.item(2, lane, 23, 99);
            x.sheet(2, lane, 1);
            due.is(x.leaves(1, 2, lane, 23), INDEX);
            x.sheet(2, lane, 24);
            due.is(x.leaves(1, 2, lane, 23), NONE);
            x.item(2, lane, 5, 99);
            x.drop(2);
            x.sheet(2, lane, 24);
            due.is(x.leaves(1, 2, lane, 5), NONE);
            x.item(2, lane, 5, 99);
        }
    }

    private static void newRowsAreOf0() {
        due.says("A SHEET holds a new row of a LANE: nothing told in it");
        for (int lane = 0; lane < 3; lane++) {
            Run x = new Run();
            x.villages("00:1,00:1,00:1,00:1,00:1,00:1");
            x.ends(0, 0);
            x.sheet(0, lane, 24);
            for (int from = 0; from <= 18; from++) {
                due.is(x.leaves(63, 0, lane, from), NONE);
            }
            x.item(0, lane, 0, 1);
            due.is(x.leaves(63, 0, lane, 0), NONE);
            x.item(0, lane, 23, 1);
            due.is(x.leaves(63, 0, lane, 18), NONE);
            x.item(0, lane, 18, 1);
            due.is(x.leaves(63, 0, lane, 18), 33);
            x.sheet(0, lane, 24);
            due.is(x.leaves(63, 0, lane, 18), NONE);
        }
    }

    private static void drops() {
        due.says("A SHEET holds nothing: how many items it had. BAD; NULL");
        Run x = new Run();
        x.village(0, 1);
        for (int no : NO_SHEETS) {
            due.is(x.drop(no), BAD);
        }
        for (int sheet = 0; sheet < 4; sheet++) {
            due.is(x.drop(sheet), NULL);
            x.sheet(sheet, 0, 0);
            due.is(x.drop(sheet), 0);
            due.is(x.drop(sheet), NULL);
            x.sheet(sheet, 1, 24);
            due.is(x.drop(sheet), 24);
            due.is(x.drop(sheet), NULL);
            due.is(x.item(sheet, 1, 0, 0), NULL);
            due.is(x.leaves(1, sheet, 1, 0), NULL);
            due.is(x.film(0, sheet, 1, 0), NULL);
        }
    }

    private static void itemsByIndex() {
        due.says("Item i of a SHEET, taken as a row of a LANE, becomes v: 1. BAD; NULL; CAST; INDEX");
        Run x = new Run();
        x.village(0, 1);
        x.sheet(3, 1, 5);
        int[] none = {-1, 5, 6, 23, 24, MIN, MAX};
        for (int i : none) {
            due.is(x.item(3, 1, i, 99), INDEX);
        }
        for (int i = 0; i < 5; i++) {
            due.is(x.leaves(1, 3, 1, i), NONE);
            due.is(x.item(3, 1, i, 99), 1);
            for (int j = 0; j < 5; j++) {
                due.is(x.leaves(1, 3, 1, j), j == i ? 1 : NONE);
            }
            due.is(x.item(3, 1, i, 0), 1);
        }
        for (int no : NO_SHEETS) {
            due.is(x.item(no, 1, 0, 1), BAD);
        }
        for (int no : NO_LANES) {
            due.is(x.item(3, no, 0, 1), BAD);
        }
        x.sheet(3, 1, 0);
        due.is(x.item(3, 1, 0, 1), INDEX);
        x.sheet(3, 1, 24);
        due.is(x.item(3, 1, 23, 1), 1);
        due.is(x.item(3, 1, 24, 1), INDEX);
    }

    private static void lowestBits() {
        due.says("becomes v, its lowest bits");
        // What is below 0 shows by not being more than any cost.
        Run x = new Run();
        x.sheet(0, 0, 1);
        int[][] bytes = {{7, 7}, {127, 41}, {128, 1}, {129, 1}, {255, 1}, {256, 1}, {263, 7}, {-249, 7}, {-1, 1}, {-128, 1},
            {-129, 41}, {32775, 7}, {MAX, 1}, {MIN, 1}, {MIN + 7, 7}};
        for (int[] b : bytes) {
            due.is(x.item(0, 0, 0, b[0]), 1);
            due.is(x.itemOr1(0, 0, 0), b[1]);
        }
        Run y = new Run();
        y.sheet(0, 1, 1);
        int[][] shorts = {{7, 7}, {128, 41}, {256, 41}, {32767, 41}, {32768, 1}, {32775, 1}, {65535, 1}, {65536, 1}, {65543, 7},
            {-65529, 7}, {-32769, 41}, {MAX, 1}, {MIN, 1}, {MIN + 7, 7}};
        for (int[] s : shorts) {
            due.is(y.item(0, 1, 0, s[0]), 1);
            due.is(y.itemOr1(0, 1, 0), s[1]);
        }
        Run z = new Run();
        z.sheet(0, 2, 1);
        int[][] ints = {{7, 7}, {128, 41}, {32768, 41}, {65536, 41}, {MAX, 41}, {-1, 1}, {-65529, 1}, {MIN, 1}, {MIN + 7, 1}};
        for (int[] i : ints) {
            due.is(z.item(0, 2, 0, i[0]), 1);
            due.is(z.itemOr1(0, 2, 0), i[1]);
        }
    }

    private static void partsThatLeave() {
        due.says("whose told SHARES together are more than CHEAPEST for it. NONE: none would leave");
        Run x = new Run();
        x.villages("06:1,60:1");
        x.sheet(0, 2, 2);
        // Alone 13, both 21.
        int[][] told = {{13, 8, NONE}, {14, 0, 1}, {0, 14, 2}, {13, 9, 3}, {13, 13, 3}, {14, 14, 1}, {8, 13, NONE}, {9, 13, 3},
            {11, 10, NONE}, {11, 11, 3}, {-100, 13, NONE}, {-100, 14, 2}, {14, -100, 1}};
        for (int[] t : told) {
            x.items(0, 2, t[0], t[1]);
            due.is(x.leaves(3, 0, 2, 0), t[2]);
        }
    }

    private static void leastPart() {
        due.says("LEAVES: of a set with told SHARES (whole numbers) the least part of it");
        Run x = new Run();
        x.villages("06:1,60:1,33:1,06:1");
        x.sheet(0, 0, 4);
        // Parts by numbers: 3 ahead of 4, 5 ahead of 8, though 4 and 8 are of one alone.
        x.items(0, 0, 11, 11, 14, 0);
        due.is(x.leaves(7, 0, 0, 0), 3);
        x.items(0, 0, 10, 11, 14, 0);
        due.is(x.leaves(7, 0, 0, 0), 4);
        x.items(0, 0, 10, 10, 9, 14);
        due.is(x.leaves(15, 0, 0, 0), 5);
        x.items(0, 0, 0, 0, 0, 14);
        due.is(x.leaves(15, 0, 0, 0), 8);
        x.items(0, 0, 6, 6, 6, 6);
        due.is(x.leaves(15, 0, 0, 0), 13);
        x.items(0, 0, 5, 5, 5, 5);
        due.is(x.leaves(15, 0, 0, 0), NONE);
    }

    private static void notEmpty() {
        due.says("the least part of it (not empty)");
        Run x = new Run();
        x.villages("06:1,60:1");
        x.sheet(0, 2, 2);
        due.is(x.leaves(3, 0, 2, 0), NONE);
        x.items(0, 2, -1, -1);
        due.is(x.leaves(3, 0, 2, 0), NONE);
        due.says("leaves: BAD: also the empty set");
        due.is(x.leaves(0, 0, 2, 0), BAD);
        due.is(x.leaves(0, 1, 2, 0), BAD);
        due.is(x.leaves(0, 0, 0, 0), BAD);
        due.is(x.leaves(0, 0, 2, 5), BAD);
    }

    private static void oneItemForEach() {
        due.says("told SHARES, one item for each VILLAGE of a set by numbers");
        Run x = new Run();
        x.villages("00:1,11:1,22:1,33:1,44:1,55:1");
        x.sheet(0, 1, 6);
        for (int i = 0; i < 6; i++) {
            x.items(0, 1, 0, 0, 0, 0, 0, 0);
            x.item(0, 1, i, 14);
            due.is(x.leaves(63, 0, 1, 0), 1 << i);
        }
        // Now the sixth is 14: of a set of three, from the fourth on, its last one's.
        due.is(x.leaves(1 | 4 | 16, 0, 1, 3), 16);
        due.is(x.leaves(2 | 8 | 32, 0, 1, 3), 32);
        due.is(x.leaves(1 | 2 | 4, 0, 1, 3), 4);
        due.is(x.leaves(8 | 16, 0, 1, 4), 16);
        due.is(x.leaves(8 | 16, 0, 1, 3), NONE);
        due.is(x.leaves(32, 0, 1, 5), 32);
        due.is(x.leaves(1, 0, 1, 5), 1);
        due.is(x.leaves(32, 0, 1, 0), NONE);
    }

    private static void fromOneOn() {
        due.says("of a SHEET, taken as a row of a LANE, from one on: INDEX");
        Run x = new Run();
        x.villages("00:1,11:1,22:1,33:1,44:1,55:1");
        for (int n = 0; n <= 7; n++) {
            x.sheet(0, 0, n);
            for (int members = 1; members <= 6; members++) {
                int set = 63 >> 6 - members;
                due.is(x.leaves(set, 0, 0, n - members), n >= members ? NONE : INDEX);
                due.is(x.leaves(set, 0, 0, n - members + 1), INDEX);
                due.is(x.leaves(set, 0, 0, 0), n >= members ? NONE : INDEX);
                due.is(x.leaves(set, 0, 0, -1), INDEX);
            }
        }
        int[] far = {MIN, MIN + 1, -6, 24, 25, MAX - 6, MAX - 1, MAX};
        x.sheet(0, 0, 24);
        for (int from : far) {
            due.is(x.leaves(63, 0, 0, from), INDEX);
        }
        due.is(x.leaves(63, 0, 0, 18), NONE);
        due.is(x.leaves(63, 0, 0, 19), INDEX);
    }

    private static void sharesFarAway() {
        due.says("told SHARES (whole numbers) .. together");
        Run x = new Run();
        x.villages("00:1,11:1,22:1");
        x.sheet(0, 2, 3);
        int[][] told = {{MIN, -1, 0, NONE}, {MIN, MIN, 0, NONE}, {MIN, MIN, MIN, NONE}, {MIN, -1, -1, NONE}, {-1, -1, MIN, NONE},
            {MIN, 14, 0, 2}, {MAX, MAX, MAX, 1}, {0, MAX, 1, 2}, {MIN, MAX, MAX, 2}, {-1, -1, MAX, 4}};
        for (int[] t : told) {
            x.items(0, 2, t[0], t[1], t[2]);
            due.is(x.leaves(7, 0, 2, 0), t[3]);
        }
    }

    private static void leavesRefused() {
        due.says("leaves: BAD");
        Run x = new Run();
        x.sheet(0, 2, 6);
        for (int set = 0; set < 3; set++) {
            due.is(x.leaves(set, 0, 2, 0), BAD);
        }
        x.villages("00:1,11:1");
        due.is(x.leaves(3, 0, 2, 0), NONE);
        int[] noSets = {0, -1, 4, 5, 7, 8, 64, MIN, MAX};
        for (int set : noSets) {
            due.is(x.leaves(set, 0, 2, 0), BAD);
        }
        for (int no : NO_SHEETS) {
            due.is(x.leaves(1, no, 2, 0), BAD);
        }
        for (int no : NO_LANES) {
            due.is(x.leaves(1, 0, no, 0), BAD);
        }
    }

    private static void filmOfRows() {
        due.says("WATER of a ROW (7 CELLS) comes to a SHEET: 7");
        for (int row = 0; row < 7; row++) {
            Run x = new Run().flat(9);
            for (int column = 0; column < 7; column++) {
                x.pile(7 * row + column, 6 - column, 0);
            }
            x.pile(7 * row + 3, 18, 0);
            x.spring(7 * row).spring(7 * row + 6);
            x.level(8);
            x.sheet(0, 0, 7);
            due.is(x.film(row, 0, 0, 0), 7);
            int[] water = {2, 3, 4, 0, 6, 7, 8};
            for (int column = 0; column < 7; column++) {
                due.is(x.itemOr1(0, 0, column), Math.max(1, water[column]));
            }
            due.is(x.film((row + 1) % 7, 0, 0, 0), 7);
            due.is(x.itemOr1(0, 0, 6), 1);
        }
    }

    private static void filmFromOneOn() {
        due.says("from one on: INDEX");
        Run x = new Run();
        x.spring(0).level(9);
        for (int n = 0; n <= 24; n++) {
            x.sheet(0, 2, n);
            due.is(x.film(3, 0, 2, n - 7), n >= 7 ? 7 : INDEX);
            due.is(x.film(3, 0, 2, n - 6), INDEX);
            due.is(x.film(3, 0, 2, -1), INDEX);
        }
        int[] far = {MIN, -7, -1, 18, 24, MAX - 6, MAX};
        x.sheet(0, 2, 24);
        for (int from : far) {
            due.is(x.film(3, 0, 2, from), INDEX);
        }
        due.is(x.itemOr1(0, 2, 0), 1);
        due.is(x.itemOr1(0, 2, 17), 1);
        due.is(x.itemOr1(0, 2, 23), 1);
        due.is(x.film(3, 0, 2, 17), 7);
        due.is(x.itemOr1(0, 2, 16), 1);
        due.is(x.itemOr1(0, 2, 17), 4);
        due.is(x.itemOr1(0, 2, 23), 4);
        due.is(x.film(3, 0, 2, 0), 7);
        due.is(x.itemOr1(0, 2, 0), 4);
        due.is(x.itemOr1(0, 2, 6), 4);
        due.is(x.itemOr1(0, 2, 7), 1);
    }

    private static void filmInLanes() {
        due.says("WATER of a ROW comes to a SHEET, taken as a row of a LANE: the most and none");
        for (int lane = 0; lane < 3; lane++) {
            Run x = new Run();
            x.pile(48, 0, 0).spring(48);
            x.sheet(1, lane, 7);
            x.items(1, lane, 30, 30, 30, 30, 30, 30, 30);
            x.level(40);
            due.is(x.film(6, 1, lane, 0), 7);
            due.is(x.itemOr1(1, lane, 6), 40);
            due.is(x.itemOr1(1, lane, 0), 35);
            x.level(0);
            due.is(x.film(6, 1, lane, 0), 7);
            due.is(x.itemOr1(1, lane, 6), 1);
            due.is(x.itemOr1(1, lane, 0), 1);
        }
    }

    private static void filmRefused() {
        due.says("film: BAD; NULL; CAST; INDEX");
        Run x = new Run();
        x.sheet(0, 0, 24);
        int[] noRows = {-1, 7, 8, 48, MIN, MAX};
        for (int row : noRows) {
            due.is(x.film(row, 0, 0, 0), BAD);
            due.is(x.film(row, 1, 1, -1), BAD);
        }
        for (int no : NO_SHEETS) {
            due.is(x.film(0, no, 0, 0), BAD);
        }
        for (int no : NO_LANES) {
            due.is(x.film(0, 0, no, 0), BAD);
        }
        due.is(x.film(0, 1, 0, 0), NULL);
        due.is(x.film(6, 1, 0, -1), NULL);
        due.is(x.film(6, 0, 1, 0), CAST);
        due.is(x.film(6, 0, 2, -1), CAST);
        due.is(x.film(6, 0, 0, 18), INDEX);
        due.is(x.film(6, 0, 0, 17), 7);
    }
}
