/** The document's Terms ahead of their parts, and part 1, the delta: each sentence that names a boundary, by itself. */
public final class TermsTest {
    private static final Due due = new Due();
    private static final int BAD = -1, NOT = -2, FULL = -3, NONE = -4, NULL = -11, CAST = -12, INDEX = -13, SIZE = -14;
    private static final int MIN = Integer.MIN_VALUE, MAX = Integer.MAX_VALUE;

    public static void main(String[] args) {
        constants();
        callsOfAnObject();
        firstRefusalOfTexts();
        firstRefusalOfTheRoad();
        firstRefusalOfWeeks();
        firstRefusalOfSheets();
        belowZero();
        setsAreBits();
        divisionsAreCut();
        cells();
        next();
        atFirst();
        traits();
        levels();
        lessThanTheLevel();
        hangTogether();
        waterOfCells();
        floodOfWetCells();
        floodToTheLeast();
        floodAsItWasAhead();
        floodBy9();
        floodDoesNotWrap();
        costs();
        due.end("TermsTest");
    }

    private static void constants() {
        due.is("BAD -1", DeltaRoad.BAD, -1);
        due.is("NOT -2", DeltaRoad.NOT, -2);
        due.is("FULL -3", DeltaRoad.FULL, -3);
        due.is("NONE -4", DeltaRoad.NONE, -4);
        due.is("NULL -11", DeltaRoad.NULL, -11);
        due.is("CAST -12", DeltaRoad.CAST, -12);
        due.is("INDEX -13", DeltaRoad.INDEX, -13);
        due.is("SIZE -14", DeltaRoad.SIZE, -14);
    }

    private static void callsOfAnObject() {
        due.says("An object is used for at most 512 calls after it has been made");
        Run x = new Run();
        for (int i = 0; i < 511; i++) {
            due.is(x.make(i % 49, 0, i / 49), i < 49 ? 5 : i / 49 - 1);
        }
        due.is(x.told(20, 0), 10);
    }

    private static void firstRefusalOfTexts() {
        due.says("of several the first that a call names: type: BAD, FULL");
        Run x = new Run().typed("3".repeat(140));
        due.is(x.type('3', 1), FULL);
        due.is(x.type('3', 0), BAD);
        due.is(x.type('3', 9), BAD);
        due.is(x.type(31, 1), BAD);
        due.is(x.type(127, 1), BAD);
        due.says("of several the first that a call names: village: BAD, FULL");
        x.delta();
        x.villages("00:1,00:1,00:1,00:1,00:1,00:1");
        due.is(x.village(0, 1), FULL);
        due.is(x.village(-1, 1), BAD);
        due.is(x.village(49, 1), BAD);
        due.is(x.village(0, 0), BAD);
        due.is(x.village(0, 100), BAD);
    }

    private static void firstRefusalOfTheRoad() {
        due.says("of several the first that a call names: step: BAD, NOT, FULL");
        Run x = new Run().pacing(0, 1, 59);
        due.is(x.step(49), BAD);
        due.is(x.step(48), NOT);
        x.step(1);
        due.is(x.step(0), FULL);
        due.is(x.step(48), NOT);
        due.is(x.step(1), NOT);
        due.is(x.step(-1), BAD);
        due.is(x.step(49), BAD);
        due.says("of several the first that a call names: back: BAD, NOT");
        Run y = new Run();
        due.is(y.back(1), NOT);
        due.is(y.back(60), NOT);
        due.is(y.back(61), BAD);
        due.is(y.back(0), BAD);
        due.says("of several the first that a call names: sinks: BAD, NONE");
        due.is(y.sinks(1, 1), NONE);
        due.is(y.sinks(0, 1), BAD);
        due.is(y.sinks(1000, 1), BAD);
        due.is(y.sinks(1, 0), BAD);
        due.is(y.sinks(1, 10), BAD);
    }

    private static void firstRefusalOfWeeks() {
        Run x = new Run();
        due.says("of several the first that a call names: odds: BAD, NOT");
        due.is(x.odds(1, 0), NOT);
        due.is(x.odds(6, 1), NOT);
        due.is(x.odds(0, 0), BAD);
        due.is(x.odds(7, 0), BAD);
        due.is(x.odds(1, -1), BAD);
        due.is(x.odds(1, 2), BAD);
        due.says("of several the first that a call names: weeks: BAD, NOT, NONE");
        due.is(x.weeks(1), NOT);
        due.is(x.weeks(60), NOT);
        due.is(x.weeks(0), BAD);
        due.is(x.weeks(61), BAD);
        x.weight(0, 1);
        due.is(x.weeks(61), BAD);
        due.is(x.weeks(1), NONE);
    }

    private static void firstRefusalOfSheets() {
        due.says("NULL, CAST, INDEX, SIZE in this order, behind BAD");
        Run x = new Run();
        x.village(0, 1);
        x.sheet(0, 0, 3);
        // Sheet 0 holds bytes, sheet 1 nothing; set 2, lane 3, sheet 4, row 7 are none.
        due.is(x.leaves(2, 1, 1, -1), BAD);
        due.is(x.leaves(0, 1, 1, -1), BAD);
        due.is(x.leaves(1, 4, 1, -1), BAD);
        due.is(x.leaves(1, 1, 3, -1), BAD);
        due.is(x.leaves(1, 1, 1, -1), NULL);
        due.is(x.leaves(1, 0, 1, -1), CAST);
        due.is(x.leaves(1, 0, 0, -1), INDEX);
        due.is(x.leaves(1, 0, 0, 0), NONE);
        due.is(x.item(4, 1, -1, 0), BAD);
        due.is(x.item(1, 3, -1, 0), BAD);
        due.is(x.item(0, 3, -1, 0), BAD);
        due.is(x.item(1, 1, -1, 0), NULL);
        due.is(x.item(0, 1, -1, 0), CAST);
        due.is(x.item(0, 0, -1, 0), INDEX);
        due.is(x.film(7, 1, 1, -1), BAD);
        due.is(x.film(0, 4, 1, -1), BAD);
        due.is(x.film(0, 1, 3, -1), BAD);
        due.is(x.film(0, 1, 1, -1), NULL);
        due.is(x.film(0, 0, 1, -1), CAST);
        due.is(x.film(0, 0, 0, -1), INDEX);
        due.is(x.sheet(4, 0, -1), BAD);
        due.is(x.sheet(0, 3, -1), BAD);
        due.is(x.sheet(0, 0, 25), BAD);
        due.is(x.sheet(0, 0, -1), SIZE);
        due.is(x.drop(4), BAD);
        due.is(x.drop(1), NULL);
    }

    private static void belowZero() {
        due.says("Where a told thing may be below 0, refused ones are 100000 less (-100001 and so on).");
        Run x = new Run();
        x.village(0, 12);
        due.is(x.worth(1), -1);
        due.is(x.worth(2), -100001);
        due.is(x.worth(-1), -100001);
        due.is(x.worth(MIN), -100001);
        due.is(x.worth(MAX), -100001);
    }

    private static void setsAreBits() {
        due.says("Sets are bits.");
        Run x = new Run();
        x.villages("00:1,33:2,66:4,06:8,60:16,35:32");
        for (int set = 0; set < 64; set++) {
            // Loads are the set's own number here, so that worth tells which villages are in it.
            due.is(x.worth(set) + x.cheapest(set), set);
        }
        due.is(x.cheapest(64), BAD);
        due.is(x.cheapest(-1), BAD);
        due.is(x.cheapest(1 << 31), BAD);
        due.is(x.cheapest(1 << 6 | 1), BAD);
        x.step(40);
        due.is(x.road(1), 4);
        x.step(41);
        x.step(34);
        x.step(27);
        due.is(x.road(1), 4 + 32);
    }

    private static void divisionsAreCut() {
        due.says("Divisions are cut.");
        Run x = new Run();
        x.step(0);
        due.is(x.sinks(40 * 9 + 8, 9), NONE);
        due.is(x.sinks(41 * 9, 9), 0);
        due.is(x.sinks(81, 2), NONE);
        due.is(x.sinks(82, 2), 0);
    }

    private static void cells() {
        due.says("THE DELTA has 7 ROWS of 7 CELLS (0 .. 48: 7 ROW and COLUMN)");
        Run x = new Run();
        int[] none = {-1, 49, MIN, MAX};
        for (int cell : none) {
            due.is(x.make(cell, 0, 5), BAD);
            due.is(x.told(cell, 0), BAD);
            due.is(x.village(cell, 1), BAD);
            due.is(x.ends(cell, 0), BAD);
            due.is(x.ends(0, cell), BAD);
            due.is(x.step(cell), BAD);
        }
        int[] ends = {0, 48};
        for (int cell : ends) {
            due.is(x.make(cell, 0, 6), 5);
            due.is(x.told(cell, 0), 6);
            due.is(x.village(cell, 1), cell / 48);
            due.is(x.ends(cell, cell), cell == 0 ? 48 : 0);
            due.is(x.step(cell), 1);
            due.is(x.back(1), 0);
        }
        x.delta("1234567/1/2/3/4/5/9999998");
        due.is(x.told(6, 0), 14);
        due.is(x.told(7, 0), 2);
        due.is(x.told(42, 0), 18);
        due.is(x.told(48, 0), 16);
    }

    private static void next() {
        due.says("NEXT to one are those of its sides (up, left, right, down, in this order)");
        for (int from = 0; from < 49; from++) {
            Run x = new Run();
            x.step(from);
            for (int to = 0; to < 49; to++) {
                boolean near = Math.abs(from / 7 - to / 7) + Math.abs(from % 7 - to % 7) == 1;
                due.is(x.step(to), near ? 2 : NOT);
                if (near) {
                    x.back(1);
                }
            }
        }
    }

    private static void atFirst() {
        Run x = new Run();
        String[] words = {"HEIGHT (0 .. 20; 5 at first)", "MUD (0 .. 9; 0)", "0 DRY (at first)", "BONES or none", "a SPRING or none"};
        int[] first = {5, 0, 0, 0, 0};
        for (int what = 0; what < 5; what++) {
            due.says(words[what]);
            for (int cell = 0; cell < 49; cell++) {
                due.is(x.told(cell, what), first[what]);
            }
        }
        due.says("THE LEVEL (0 .. 40; 0 at first)");
        due.is(x.count(6), 0);
        due.is(x.count(2), 0);
    }

    private static void traits() {
        String[] words = {"HEIGHT (0 .. 20", "MUD (0 .. 9", "KIND: 0 DRY .. 3 CHANNEL", "BONES or none", "a SPRING or none"};
        int[] most = {20, 9, 3, 1, 1};
        int[] first = {5, 0, 0, 0, 0};
        for (int what = 0; what < 5; what++) {
            due.says(words[what]);
            Run x = new Run();
            int was = first[what];
            int[] wrong = {-1, most[what] + 1, MIN, MAX};
            for (int v = 0; v <= most[what]; v++) {
                due.is(x.make(30, what, v), was);
                for (int no : wrong) {
                    due.is(x.make(30, what, no), BAD);
                }
                due.is(x.told(30, what), v);
                was = v;
            }
        }
    }

    private static void levels() {
        due.says("THE LEVEL (0 .. 40");
        Run x = new Run();
        x.pile(0, 0, 0).spring(0).make(1, 0, 0);
        for (int v = 0; v <= 40; v++) {
            due.is(x.level(v), v == 0 ? 0 : v < 6 ? 2 : 49);
            due.is(x.count(6), v);
            due.is(x.told(0, 5), v);
        }
        int[] wrong = {-1, 41, MIN, MAX};
        for (int no : wrong) {
            due.is(x.level(no), BAD);
            due.is(x.count(6), 40);
            due.is(x.told(0, 5), 40);
        }
    }

    private static void lessThanTheLevel() {
        due.says("WET are CELLS whose HEIGHT and MUD together are less than it");
        Run x = new Run().flat(9);
        x.make(24, 0, 4);
        x.make(24, 1, 3);
        x.spring(24);
        due.is(x.level(6), 0);
        due.is(x.level(7), 0);
        due.is(x.level(8), 1);
        due.is(x.level(18), 1);
        due.is(x.level(19), 49);
        x.make(24, 0, 20);
        x.make(24, 1, 9);
        x.spring(0);
        due.is(x.level(29), 48);
        due.is(x.told(24, 5), 0);
        due.is(x.level(30), 49);
        due.is(x.told(24, 5), 1);
        x.make(24, 0, 0);
        x.make(24, 1, 0);
        due.is(x.level(0), 0);
        due.is(x.level(1), 1);
    }

    private static void hangTogether() {
        due.says("and that hang together by such ones with a SPRING");
        Run x = new Run();
        due.is(x.level(40), 0);
        x.flat(9).delta("0009000");
        x.spring(0);
        due.is(x.level(10), 3);
        due.is(x.told(4, 5), 0);
        x.spring(6);
        due.is(x.level(10), 6);
        x.make(3, 0, 9);
        due.is(x.count(2), 7);
        x.make(3, 1, 1);
        due.is(x.count(2), 6);
        due.says("hang together by such ones: corners do not, rows do not wrap around");
        Run y = new Run().flat(9);
        y.pile(6, 0, 0).spring(6);
        y.pile(7, 0, 0).pile(12, 0, 0).pile(14, 0, 0).pile(48, 0, 0);
        due.is(y.level(10), 1);
        Run z = new Run().flat(9);
        z.pile(45, 0, 0).spring(45);
        z.pile(3, 0, 0).pile(37, 0, 0).pile(39, 0, 0);
        due.is(z.level(10), 1);
        z.pile(38, 0, 0);
        due.is(z.count(2), 4);
        springsThemselves();
        windings();
    }

    private static void springsThemselves() {
        due.says("with a SPRING (itself such a one)");
        Run x = new Run();
        x.make(24, 0, 20);
        x.spring(24);
        due.is(x.level(20), 0);
        due.is(x.level(21), 49);
        x.spring(0);
        due.is(x.level(20), 48);
        x.make(0, 4, 0);
        due.is(x.count(2), 0);
    }

    /** Water that goes up, left, right and down, along one way of 31 cells. */
    private static void windings() {
        due.says("and that hang together by such ones with a SPRING");
        Run x = new Run();
        x.delta("0000000/9999990/0000000/0999999/0000000/9999990/0000000");
        x.spring(42);
        due.is(x.level(5), 31);
        x.make(42, 4, 0);
        x.spring(0);
        due.is(x.count(2), 31);
        x.make(21, 0, 18);
        due.is(x.count(2), 15);
        due.is(x.told(0, 5), 5);
        due.is(x.told(48, 5), 0);
    }

    private static void waterOfCells() {
        due.says("WATER of a WET one: how much less; else 0.");
        Run x = new Run();
        x.pile(0, 0, 0).spring(0).pile(1, 3, 4).pile(2, 0, 7).pile(48, 0, 0);
        x.level(8);
        due.is(x.told(0, 5), 8);
        due.is(x.told(1, 5), 1);
        due.is(x.told(2, 5), 1);
        due.is(x.told(3, 5), 3);
        x.level(7);
        due.is(x.told(0, 5), 7);
        due.is(x.told(1, 5), 0);
        due.is(x.told(2, 5), 0);
        due.is(x.told(3, 5), 2);
        x.level(5);
        due.is(x.told(3, 5), 0);
        due.is(x.told(48, 5), 0);
        x.level(40);
        due.is(x.told(0, 5), 40);
        due.is(x.told(48, 5), 40);
    }

    private static void floodOfWetCells() {
        due.says("A FLOOD, at THE LEVEL: of each WET CELL with MUD one of it goes");
        Run x = new Run().flat(9);
        x.pile(24, 5, 5).spring(24).make(17, 0, 5);
        due.is(x.flood(), 0);
        x.level(10);
        due.is(x.flood(), 0);
        due.is(x.told(24, 1), 5);
        x.level(11);
        due.is(x.flood(), 1);
        due.is(x.told(24, 1), 4);
        due.is(x.told(17, 1), 1);
        due.says("none lost");
        Run y = new Run();
        y.delta("0s1234/4321/9/0000000/321/23/5s5s5");
        int[] muds = {9, 3, 0, 5, 9, 8, 1, 7};
        for (int cell = 0; cell < 49; cell++) {
            y.make(cell, 1, muds[cell % 8]);
        }
        int all = y.count(3);
        y.level(27);
        for (int i = 0; i < 30; i++) {
            y.flood();
            due.is(y.count(3), all);
        }
        for (int cell = 0; cell < 49; cell++) {
            int mud = y.told(cell, 1);
            due.is(mud >= 0 && mud <= 9 ? 1 : 0, 1);
        }
    }

    private static void floodToTheLeast() {
        due.says("goes to that CELL NEXT to it whose HEIGHT and MUD together are least");
        int[] sides = {17, 23, 25, 31};
        for (int lowest = 0; lowest < 4; lowest++) {
            Run x = new Run().flat(9);
            x.pile(24, 5, 5).spring(24);
            for (int side : sides) {
                x.pile(side, 1, 7);
            }
            x.pile(sides[lowest], 7, 0);
            x.level(12);
            x.flood();
            due.is(x.told(24, 1), 4);
            due.is(x.told(sides[lowest], 1), 1);
        }
        due.says("of like ones the first");
        Run y = new Run().flat(9);
        y.pile(24, 10, 5).spring(24).level(16);
        for (int first = 3; first >= 0; first--) {
            y.pile(sides[first], 5, 0);
            due.is(y.flood(), 1);
            due.is(y.told(sides[first], 1), 1);
            y.make(sides[first], 1, 0);
        }
        due.is(y.told(24, 1), 1);
        due.says("if that is less than its own");
        Run z = new Run().flat(9);
        z.pile(24, 5, 2).spring(24).pile(17, 7, 0).pile(25, 4, 3);
        z.level(12);
        due.is(z.flood(), 0);
        z.make(25, 1, 2);
        due.is(z.flood(), 1);
        due.is(z.told(25, 1), 3);
    }

    private static void floodAsItWasAhead() {
        due.says("(all as it was ahead of THE FLOOD): one that is lower by then");
        Run x = walls(10, 5, 0, 17, 5, 1, 24, 5, 1);
        due.is(x.flood(), 1);
        due.is(x.told(24, 1), 1);
        due.is(x.told(10, 1), 1);
        due.says("(all as it was ahead of THE FLOOD): its own is more by then");
        x = walls(17, 5, 2, 24, 5, 1, 31, 6, 0);
        due.is(x.flood(), 1);
        due.is(x.told(24, 1), 2);
        due.says("(all as it was ahead of THE FLOOD): MUD that has just come");
        x = walls(17, 5, 1, 24, 5, 0, 31, 3, 0);
        due.is(x.flood(), 1);
        due.is(x.told(24, 1), 1);
        due.is(x.told(31, 1), 0);
        due.says("(all as it was ahead of THE FLOOD): no longer WET by then");
        x = walls(17, 5, 2, 23, 5, 2, 24, 5, 1, 31, 5, 0);
        x.level(8);
        due.is(x.flood(), 3);
        due.is(x.told(24, 1), 2);
        due.is(x.told(31, 1), 1);
        due.says("(all as it was ahead of THE FLOOD): of like ones one is higher by then");
        x = walls(10, 5, 1, 17, 5, 0, 23, 5, 0, 24, 6, 1);
        due.is(x.flood(), 2);
        due.is(x.told(17, 1), 2);
        due.is(x.told(23, 1), 0);
    }

    /** Cells with their heights and muds among walls of 18, wet from 24 on at a level of 12. */
    private static Run walls(int... cells) {
        Run x = new Run().flat(9).spring(24);
        for (int i = 0; i < cells.length; i += 3) {
            x.pile(cells[i], cells[i + 1], cells[i + 2]);
        }
        x.level(12);
        return x;
    }

    private static void floodBy9() {
        due.says("and not, if the other one has 9 by then: it had 9");
        Run x = walls(17, 9, 1, 24, 0, 9);
        due.is(x.flood(), 0);
        due.is(x.told(17, 1), 1);
        due.is(x.told(24, 1), 9);
        x.make(24, 1, 8);
        due.is(x.flood(), 1);
        due.is(x.told(24, 1), 9);
        due.says("by numbers of the CELLS it goes from, and not, if the other one has 9 by then: room for one");
        x = walls(17, 9, 1, 23, 9, 1, 24, 0, 8, 25, 9, 1, 31, 9, 1);
        due.is(x.flood(), 1);
        int[] left = {0, 1, 9, 1, 1};
        int[] cells = {17, 23, 24, 25, 31};
        for (int i = 0; i < 5; i++) {
            due.is(x.told(cells[i], 1), left[i]);
        }
        due.says("if the other one has 9 by then: it gave one ahead");
        x = walls(10, 0, 0, 17, 0, 9, 24, 9, 1);
        due.is(x.flood(), 2);
        due.is(x.told(17, 1), 9);
        due.is(x.told(24, 1), 0);
        due.says("if the other one has 9 by then: it gives one later");
        x = walls(17, 9, 1, 24, 0, 9, 31, 0, 0);
        due.is(x.flood(), 1);
        due.is(x.told(17, 1), 1);
        due.is(x.told(24, 1), 8);
        due.is(x.flood(), 2);
        due.is(x.told(17, 1), 0);
        due.is(x.told(24, 1), 8);
        due.says("by numbers of the CELLS it goes from: in, refused, out, in");
        x = walls(17, 9, 1, 23, 9, 1, 24, 0, 8, 25, 9, 1, 31, 0, 0);
        due.is(x.flood(), 3);
        due.is(x.told(17, 1), 0);
        due.is(x.told(23, 1), 1);
        due.is(x.told(24, 1), 9);
        due.is(x.told(25, 1), 0);
        due.is(x.told(31, 1), 1);
    }

    private static void floodDoesNotWrap() {
        due.says("goes to that CELL NEXT to it: not around the edges");
        int[][] pairs = {{6, 7}, {7, 6}, {20, 21}, {21, 20}, {3, 45}, {45, 3}, {0, 48}, {48, 0}, {0, 8}, {12, 6}};
        for (int[] pair : pairs) {
            Run x = new Run().flat(9);
            x.pile(pair[0], 5, 5).spring(pair[0]).pile(pair[1], 0, 0);
            x.level(12);
            due.is(x.flood(), 0);
            due.is(x.told(pair[0], 1), 5);
        }
    }

    private static void costs() {
        due.says("COST of a CELL: of its KIND (DRY 1, MARSH 3, REED 2, CHANNEL 6), and WATER");
        int[] byKind = {1, 3, 2, 6};
        Run x = new Run();
        x.spring(24);
        for (int kind = 0; kind < 4; kind++) {
            x.make(24, 2, kind);
            x.make(24, 3, 0);
            due.is(costAt(x, 0), byKind[kind]);
            due.is(costAt(x, 5), byKind[kind]);
            due.is(costAt(x, 6), byKind[kind] + 1);
            due.is(costAt(x, 40), byKind[kind] + 35);
            due.says("with BONES 1 less; 1 at least");
            x.make(24, 3, 1);
            due.is(costAt(x, 5), Math.max(1, byKind[kind] - 1));
            due.is(costAt(x, 6), byKind[kind]);
            due.is(costAt(x, 7), byKind[kind] + 1);
        }
        due.says("COST of a CELL: and WATER: MUD is none");
        x.make(24, 2, 0);
        x.make(24, 1, 9);
        due.is(costAt(x, 5), 1);
        due.is(costAt(x, 14), 1);
        due.is(costAt(x, 16), 2);
    }

    private static int costAt(Run x, int level) {
        x.level(level);
        return x.told(24, 6);
    }
}
