/** Part 2 of the Terms and promises 10 to 17, villages and the cheapest road: each sentence that names a boundary. */
public final class VillagesTest {
    private static final Due due = new Due();
    private static final int BAD = -1, FULL = -3;
    private static final int MIN = Integer.MIN_VALUE, MAX = Integer.MAX_VALUE;
    private static final int[] NO_SETS_OF_3 = {-1, 8, 9, 15, 16, 32, 63, 64, 128, 256, 1 << 16, MIN, MIN | 1, MAX};

    public static void main(String[] args) {
        villagesAsTheyCome();
        loads();
        likeVillages();
        endsAtFirst();
        endsMayBeOne();
        eachNextToTheOneBefore();
        asOftenAsItLikes();
        serves();
        servesByItsEnds();
        servesByOneEndAlone();
        leastCost();
        leastCostByALongWay();
        setsThatAreNone();
        worthOfSets();
        theVote();
        theVoteOfNone();
        joining();
        sharesInLowestTerms();
        sharesRefused();
        layFirstBySides();
        layFewestCells();
        layInPlace();
        layEveryPlace();
        layFull();
        layFullAtOnce();
        renewed();
        due.end("VillagesTest");
    }

    private static void villagesAsTheyCome() {
        due.says("VILLAGES 0 .. 5, as they come, lie in a CELL");
        Run x = new Run();
        int[] cells = {48, 0, 6, 42, 24, 24};
        due.is(x.count(0), 0);
        due.is(x.of(0, 0), BAD);
        for (int i = 0; i < 6; i++) {
            due.is(x.village(cells[i], 10 + i), i);
            due.is(x.count(0), i + 1);
            due.is(x.of(i, 0), cells[i]);
            due.is(x.of(i, 1), 10 + i);
            due.is(x.of(i + 1, 0), BAD);
        }
        due.says("village: FULL: 6");
        due.is(x.village(1, 1), FULL);
        due.is(x.count(0), 6);
        for (int i = 0; i < 6; i++) {
            due.is(x.of(i, 0), cells[i]);
            due.is(x.of(i, 1), 10 + i);
        }
        due.says("of: its CELL (0), LOADS (1). BAD");
        int[] none = {-1, 6, 7, MIN, MAX};
        for (int v : none) {
            due.is(x.of(v, 0), BAD);
            due.is(x.of(v, 1), BAD);
        }
        int[] nothing = {-1, 2, MIN, MAX};
        for (int what : nothing) {
            due.is(x.of(0, what), BAD);
            due.is(x.of(5, what), BAD);
        }
    }

    private static void loads() {
        due.says("give LOADS (1 .. 99)");
        Run x = new Run();
        int[] wrong = {0, 100, -1, MIN, MAX};
        for (int loads : wrong) {
            due.is(x.village(3, loads), BAD);
            due.is(x.count(0), 0);
        }
        due.is(x.village(3, 1), 0);
        due.is(x.village(3, 99), 1);
        due.is(x.of(0, 1), 1);
        due.is(x.of(1, 1), 99);
    }

    private static void likeVillages() {
        due.says("VILLAGES 0 .. 5, as they come: several in one CELL");
        Run x = new Run();
        x.villages("60:5,60:5,60:5,60:5,60:5,60:5");
        x.ends(0, 6);
        for (int set = 1; set < 64; set++) {
            due.is(x.cheapest(set), 17);
        }
        due.is(x.cheapest(0), 7);
        due.is(x.vote(), 63);
    }

    private static void endsAtFirst() {
        due.says("THE ENDS are two CELLS (0 and 48 at first");
        Run x = new Run();
        due.is(x.lay(0), 13);
        due.is(x.at(0), 0);
        due.is(x.at(12), 48);
        due.says("ends: as 100 times the first, and the second, what they were. BAD");
        due.is(x.ends(48, 1), 48);
        due.is(x.ends(1, 48), 4801);
        due.is(x.ends(48, 48), 148);
        due.is(x.ends(0, 0), 4848);
        int[] wrong = {-1, 49, MIN, MAX};
        for (int cell : wrong) {
            due.is(x.ends(cell, 3), BAD);
            due.is(x.ends(3, cell), BAD);
            due.is(x.ends(cell, cell), BAD);
        }
        due.is(x.ends(5, 6), 0);
        due.is(x.ends(5, 6), 506);
    }

    private static void endsMayBeOne() {
        due.says("they may be one");
        Run x = new Run();
        x.make(24, 2, 3);
        x.ends(24, 24);
        due.is(x.cheapest(0), 6);
        due.is(x.lay(0), 1);
        due.is(x.at(0), 24);
        x.village(24, 1);
        x.village(16, 1);
        due.is(x.cheapest(3), 6);
        due.is(x.lay(3), 1);
        x.village(22, 1);
        due.is(x.cheapest(4), 13);
        due.is(x.lay(4), 3);
        due.is(x.at(1), 23);
        due.is(x.at(2), 24);
    }

    private static void eachNextToTheOneBefore() {
        due.says("A ROAD is a row of CELLS, each NEXT to the one before, from the first of THE ENDS to the second");
        Run x = new Run();
        int[][] far = {{0, 0, 1}, {0, 1, 2}, {0, 8, 3}, {6, 7, 8}, {7, 6, 8}, {0, 42, 7}, {42, 0, 7}, {3, 45, 7}, {0, 48, 13},
            {48, 0, 13}, {6, 42, 13}, {13, 14, 8}, {24, 32, 3}};
        for (int[] f : far) {
            x.ends(f[0], f[1]);
            due.is(x.cheapest(0), f[2]);
            due.is(x.lay(0), f[2]);
            due.is(x.at(0), f[0]);
            due.is(x.at(f[2] - 1), f[1]);
            due.is(x.at(f[2]), BAD);
        }
        due.says("from the first of THE ENDS to the second: both cost");
        x.ends(0, 1);
        x.make(0, 2, 1);
        due.is(x.cheapest(0), 4);
        x.make(1, 2, 3);
        due.is(x.cheapest(0), 9);
    }

    private static void asOftenAsItLikes() {
        due.says("(any CELL as often as it likes; it costs each time)");
        Run x = new Run();
        x.ends(0, 0);
        x.make(1, 2, 3);
        x.village(3, 1);
        // By 7, 8, 9 and back, or over the channel twice.
        due.is(x.cheapest(1), 7);
        x.make(7, 2, 3);
        due.is(x.cheapest(1), 15);
        due.is(x.lay(1), 5);
        due.is(x.at(0), 0);
        due.is(x.at(4), 0);
        due.is(x.at(1), 1);
        due.is(x.at(3), 1);
        due.is(x.road(0), 15);
        Run y = new Run();
        y.villages("06:1,60:1,00:1,66:1");
        y.ends(24, 24);
        // 4 steps to the first of the corners' nearest cells, 4 each to three more, 4 back.
        due.is(y.cheapest(15), 21);
    }

    private static void serves() {
        due.says("It SERVES a VILLAGE, if one of its CELLS is no farther from that than 1 (by rows, columns, the greater)");
        for (int cell = 0; cell < 49; cell++) {
            Run x = new Run();
            x.village(cell, 1);
            for (int from = 0; from < 49; from++) {
                boolean near = Math.abs(cell / 7 - from / 7) <= 1 && Math.abs(cell % 7 - from % 7) <= 1;
                x.step(from);
                due.is(x.road(1), near ? 1 : 0);
                x.back(1);
                x.ends(from, from);
                due.is(x.cheapest(1) == 1 ? 1 : 0, near ? 1 : 0);
            }
        }
    }

    private static void servesByItsEnds() {
        due.says("It SERVES a VILLAGE, if one of its CELLS: the first, the last, one between");
        Run x = new Run();
        x.villages("00:1,66:1,03:1,60:1");
        x.lay(0);
        due.is(x.road(1), 7);
        x.back(1);
        due.is(x.road(1), 7);
        x.back(1);
        due.is(x.road(1), 5);
        due.is(x.cheapest(7), 13);
        due.is(x.cheapest(8), 13);
        due.is(x.cheapest(15), 15);
    }

    private static void servesByOneEndAlone() {
        due.says("It SERVES a VILLAGE, if one of its CELLS: the first alone, the last alone");
        int[] sides = {-7, -1, 1, 7};
        for (int cell = 0; cell < 49; cell++) {
            Run x = new Run();
            for (int side : sides) {
                // The village lies straight on from the other end, two away from that.
                if (isNext(cell, cell - side) && isNext(cell, cell + side)) {
                    x.villages((cell - side) / 7 + "" + (cell - side) % 7 + ":1");
                    x.ends(cell, cell + side);
                    due.is(x.cheapest(1), 2);
                    x.ends(cell + side, cell);
                    due.is(x.cheapest(1), 2);
                    x.ends(cell + side, cell + side);
                    due.is(x.cheapest(1), 3);
                }
            }
        }
    }

    private static boolean isNext(int cell, int other) {
        return other >= 0 && other < 49 && Math.abs(cell / 7 - other / 7) + Math.abs(cell % 7 - other % 7) == 1;
    }

    private static void leastCost() {
        due.says("CHEAPEST for a set of VILLAGES: the least COST of a ROAD that SERVES all of them");
        Run x = new Run().flat(9);
        // A winding way of dry cells: the second row of channels is crossed all the same, the others passed by.
        x.delta("1111111/2c2c2c2c2c2c1/1111111/12c2c2c2c2c2c/1111111/2c2c2c2c2c2c1/1111111");
        due.is(x.cheapest(0), 12 + 6);
        x.spring(7);
        x.level(16);
        // Cells of 2 have 14 water, channels of 4 have 12: 15 a cell, or 18.
        due.is(x.cheapest(0), 12 * 15 + 18);
        x.level(40);
        due.is(x.cheapest(0), 12 * 39 + 42);
        due.says("CHEAPEST for a set of VILLAGES: the empty one, all six");
        Run y = new Run();
        due.is(y.cheapest(0), 13);
        y.villages("06:1,60:1,00:1,66:1,33:1,03:1");
        due.is(y.cheapest(0), 13);
        due.is(y.cheapest(63), 21);
        due.is(y.cheapest(62), 15);
        Run z = new Run();
        // The dearest of all: every cell a channel under 40 water, and there and back.
        String row = "0c0c0c0c0c0c0c";
        z.delta(row + ("/" + row).repeat(6));
        z.spring(0).level(40);
        z.villages("06:1,60:1,00:1,66:1,33:1,03:1");
        due.is(z.cheapest(0), 13 * 46);
        due.is(z.cheapest(63), 21 * 46);
        due.is(z.lay(63), 21);
        due.is(z.road(0), 21 * 46);
    }

    private static void leastCostByALongWay() {
        due.says("CHEAPEST for a set of VILLAGES: the least COST of a ROAD: far around");
        // The way winds through channels under water: 25 cells to the end, 5 more and back to the last corner.
        Run x = new Run();
        x.delta("9999999/0cs0cs0cs0cs0cs0cs9/9999999/90cs0cs0cs0cs0cs0cs/9999999/0cs0cs0cs0cs0cs0cs9/9999999");
        x.level(18);
        due.is(x.cheapest(0), 25);
        due.is(x.lay(0), 25);
        x.villages("60:1,06:1");
        due.is(x.cheapest(3), 35);
        x.ends(48, 0);
        due.is(x.cheapest(3), 35);
        due.is(x.lay(3), 35);
        x.ends(24, 24);
        due.is(x.cheapest(0), 24);
        // Each channel dearer than the next, so that what is cheapest changes often while it is sought.
        Run y = new Run();
        for (int cell = 0; cell < 49; cell++) {
            boolean way = cell / 7 % 2 == 0 || cell == 13 || cell == 21 || cell == 41;
            y.make(cell, 0, way ? 20 : cell % 7);
            y.make(cell, 2, way ? 0 : 3);
            y.make(cell, 4, way ? 0 : 1);
        }
        y.level(20);
        due.is(y.cheapest(0), 25);
        y.ends(48, 0);
        due.is(y.cheapest(0), 25);
    }

    private static void setsThatAreNone() {
        Run x = new Run();
        due.says("cheapest, worth, lay: BAD: no villages");
        for (int set = 1; set < 64; set *= 2) {
            due.is(x.cheapest(set), BAD);
            due.is(x.worth(set), -100001);
            due.is(x.lay(set), BAD);
            due.is(x.share(set, 0, 0), BAD);
        }
        due.is(x.cheapest(0), 13);
        due.is(x.worth(0), -13);
        due.is(x.lay(0), 13);
        x.villages("00:1,11:1,22:1");
        due.says("cheapest, worth, lay: BAD: others than three's");
        for (int set : NO_SETS_OF_3) {
            due.is(x.cheapest(set), BAD);
            due.is(x.worth(set), -100001);
            due.is(x.lay(set), BAD);
        }
        due.is(x.cheapest(7), 13);
        due.is(x.worth(7), -10);
        due.is(x.lay(7), 13);
        x.villages("00:1,11:1,22:1,33:1,44:1,55:1");
        due.is(x.cheapest(63), 13);
        due.is(x.cheapest(64), BAD);
        due.is(x.worth(64), -100001);
        due.is(x.lay(64), BAD);
        x.villages("00:1");
        due.is(x.cheapest(2), BAD);
        due.is(x.cheapest(1), 13);
    }

    private static void worthOfSets() {
        due.says("WORTH of a set: LOADS of its VILLAGES less CHEAPEST for it");
        Run x = new Run();
        x.villages("06:1,60:99,33:12,06:13");
        due.is(x.worth(0), -13);
        due.is(x.worth(1), -12);
        due.is(x.worth(2), 86);
        due.is(x.worth(3), 79);
        due.is(x.worth(4), -1);
        due.is(x.worth(8), 0);
        due.is(x.worth(15), 125 - 21);
        Run y = new Run();
        y.villages("00:99,00:99,00:99,00:99,00:99,00:99");
        y.ends(0, 0);
        due.is(y.worth(63), 593);
    }

    private static void theVote() {
        due.says("THE VOTE: the set that is WORTH most, of like ones the least");
        Run x = new Run();
        x.ends(0, 6);
        // Past 60 the road has 10 cells more: 5 down and 5 up.
        x.villages("60:10");
        due.is(x.worth(0), x.worth(1));
        due.is(x.vote(), 0);
        x.villages("60:11");
        due.is(x.vote(), 1);
        x.villages("60:9");
        due.is(x.vote(), 0);
        x.villages("60:5,60:5");
        due.is(x.vote(), 0);
        x.villages("60:5,60:6");
        due.is(x.vote(), 3);
        x.villages("60:10,03:1");
        due.is(x.vote(), 2);
        x.villages("03:1,60:10");
        due.is(x.vote(), 1);
        x.villages("60:99,00:1,03:1,06:1,60:1,33:1");
        due.is(x.vote(), 63);
        x.villages("60:1,60:1,60:1,60:1,60:1,60:5");
        due.is(x.vote(), 0);
        x.villages("60:1,60:1,60:1,60:1,60:1,60:6");
        due.is(x.vote(), 63);
    }

    private static void theVoteOfNone() {
        due.says("THE VOTE: the set: no villages");
        Run x = new Run();
        due.is(x.vote(), 0);
        x.villages("00:1,11:1,22:1,33:1,44:1,55:1");
        due.is(x.vote(), 63);
        x.villages("00:1");
        due.is(x.vote(), 1);
    }

    private static void joining() {
        due.says("(the first one: CHEAPEST for it)");
        Run x = new Run();
        x.villages("06:1,60:1,00:1");
        share(x, 1, 0, 13, 1);
        share(x, 4, 2, 13, 1);
        due.says("SHARE of one: the mean of what it costs by all orders");
        // Alone 13, both corners 21: 13 or 8.
        share(x, 3, 0, 21, 2);
        share(x, 3, 1, 21, 2);
        // 0 and 2: 13, or nothing behind the other.
        share(x, 5, 0, 13, 2);
        share(x, 5, 2, 13, 2);
        // Three: 13 twice, 8 behind 1 alone, 0 behind 2 alone, 8 twice behind both: 50 by 6.
        share(x, 7, 0, 25, 3);
        share(x, 7, 1, 25, 3);
        share(x, 7, 2, 13, 3);
        due.says("JOINING: of a set of VILLAGES (one at least)");
        for (int village = 0; village < 3; village++) {
            due.is(x.share(0, village, 0), BAD);
            due.is(x.share(0, village, 1), BAD);
        }
    }

    private static void share(Run x, int set, int village, int above, int below) {
        due.is(x.share(set, village, 0), above);
        due.is(x.share(set, village, 1), below);
    }

    private static void sharesInLowestTerms() {
        due.says("share: above (0), below (1)");
        Run x = new Run();
        x.ends(0, 6);
        // On the way: 7; past 60: 10 more.
        x.villages("00:1,01:1,02:1,03:1,04:1,60:1");
        // The last one: 17 first, 10 behind others; of 720 orders 120 and 600.
        share(x, 63, 5, 67, 6);
        // Of the others each: 7 first, but behind 5 ahead of all others nothing more.
        share(x, 63, 0, 7, 6);
        share(x, 33, 0, 7, 2);
        share(x, 33, 5, 27, 2);
        share(x, 32, 5, 17, 1);
        share(x, 31, 2, 7, 5);
        share(x, 15, 3, 7, 4);
        x.ends(6, 6);
        x.make(6, 2, 3);
        x.villages("06:1,06:1,06:1,06:1,06:1,06:1");
        share(x, 63, 0, 1, 1);
        share(x, 63, 5, 1, 1);
        share(x, 7, 1, 2, 1);
        share(x, 15, 1, 3, 2);
        share(x, 31, 4, 6, 5);
    }

    private static void sharesRefused() {
        due.says("share: BAD: also one not of it");
        Run x = new Run();
        x.villages("00:1,33:1,66:1");
        for (int set = 0; set < 8; set++) {
            for (int village = 0; village < 3; village++) {
                boolean in = (set >> village) % 2 == 1;
                due.is(x.share(set, village, 1) > 0 ? 1 : BAD, in ? 1 : BAD);
                due.is(x.share(set, village, 0) > 0 ? 1 : BAD, in ? 1 : BAD);
            }
        }
        due.says("share: BAD");
        for (int set : NO_SETS_OF_3) {
            due.is(x.share(set, 0, 0), BAD);
            due.is(x.share(set, 0, 1), BAD);
        }
        int[] none = {-1, 3, 4, 5, 6, 31, 32, 33, 64, -32, MIN, MAX};
        for (int village : none) {
            due.is(x.share(7, village, 0), BAD);
            due.is(x.share(7, village, 1), BAD);
        }
        int[] nothing = {-1, 2, MIN, MAX};
        for (int part : nothing) {
            due.is(x.share(7, 0, part), BAD);
        }
    }

    private static void layFirstBySides() {
        due.says("lay: then the first by its sides, step by step");
        Run x = new Run();
        x.lay(0);
        road(x, 0, 1, 2, 3, 4, 5, 6, 13, 20, 27, 34, 41, 48);
        x.ends(48, 0);
        x.lay(0);
        road(x, 48, 41, 34, 27, 20, 13, 6, 5, 4, 3, 2, 1, 0);
        x.ends(6, 42);
        x.lay(0);
        road(x, 6, 5, 4, 3, 2, 1, 0, 7, 14, 21, 28, 35, 42);
        x.ends(42, 6);
        x.lay(0);
        road(x, 42, 35, 28, 21, 14, 7, 0, 1, 2, 3, 4, 5, 6);
        x.ends(24, 24);
        x.villages("33:1,13:1,31:1,35:1,53:1");
        due.is(x.lay(30), 9);
        road(x, 24, 17, 16, 17, 18, 17, 24, 31, 24);
        due.is(x.lay(28), 7);
        road(x, 24, 23, 24, 25, 24, 31, 24);
        due.is(x.lay(24), 5);
        road(x, 24, 25, 24, 31, 24);
        x.ends(22, 26);
        x.make(24, 2, 3);
        due.is(x.lay(0), 7);
        road(x, 22, 15, 16, 17, 18, 19, 26);
    }

    private static void road(Run x, int... cells) {
        due.is(x.count(1), cells.length);
        for (int i = 0; i < cells.length; i++) {
            due.is(x.at(i), cells[i]);
        }
        due.is(x.at(cells.length), BAD);
    }

    private static void layFewestCells() {
        due.says("lay: of like COST that of the fewest CELLS");
        Run x = new Run();
        x.ends(21, 23);
        x.make(22, 2, 1);
        due.is(x.lay(0), 3);
        road(x, 21, 22, 23);
        x.spring(22).make(22, 0, 0);
        due.is(x.level(1), 1);
        due.is(x.lay(0), 5);
        road(x, 21, 14, 15, 16, 23);
        x.make(22, 3, 1);
        due.is(x.lay(0), 3);
        x.ends(15, 29);
        x.make(14, 2, 3);
        x.make(22, 2, 3);
        due.is(x.lay(0), 5);
        road(x, 15, 16, 23, 30, 29);
    }

    private static void layInPlace() {
        due.says("CHEAPEST for a set is LAID: how many CELLS: in place of the one before");
        Run x = new Run();
        x.pacing(30, 31, 60);
        due.is(x.lay(0), 13);
        due.is(x.count(1), 13);
        due.is(x.at(13), BAD);
        x.ends(8, 8);
        due.is(x.lay(0), 1);
        road(x, 8);
        x.leave();
        due.is(x.lay(0), 1);
        due.is(x.step(9), 2);
        due.is(x.step(24), -2);
    }

    /** Whatever is asked for, what is laid goes from end to end, step by step, costs what is cheapest and serves the set. */
    private static void layEveryPlace() {
        due.says("THE LAID ROAD is .. a ROAD that is CHEAPEST");
        for (int set = 0; set < 64; set += 3) {
            Run x = new Run();
            x.delta("1m2b3/2r2r9c/4c4bs/1234567/0c0c0c0c0s/9m9m/1rb1rb1rb");
            x.villages("01:9,16:9,24:9,45:9,50:9,63:9");
            x.level(set / 6);
            x.ends(set % 49, (set * 5 + 20) % 49);
            int cells = x.lay(set);
            due.is(x.road(0), x.cheapest(set));
            due.is(x.road(1) & set, set);
            due.is(x.at(0), set % 49);
            due.is(x.at(cells - 1), (set * 5 + 20) % 49);
            for (int i = 1; i < cells; i++) {
                int a = x.at(i - 1);
                int b = x.at(i);
                due.is(Math.abs(a / 7 - b / 7) + Math.abs(a % 7 - b % 7), 1);
            }
        }
    }

    /** A way of 31 dry cells that winds through channels under much water. */
    private static Run maze() {
        String[] walls = {"##.....", ".#.###.", ".#....#", ".####..", ".#...#.", ".#.#.#.", "...#..."};
        Run x = new Run();
        for (int cell = 0; cell < 49; cell++) {
            boolean wall = walls[cell / 7].charAt(cell % 7) == '#';
            x.pile(cell, wall ? 0 : 20, wall ? 0 : 9);
            x.make(cell, 2, wall ? 3 : 0);
            x.make(cell, 4, wall ? 1 : 0);
        }
        x.villages("15:1,44:1,66:1,00:1,10:1,06:1");
        x.level(29);
        return x;
    }

    private static void layFullAtOnce() {
        due.says("lay: FULL: more than 60: the first thing asked for");
        Run x = maze();
        x.ends(13, 13);
        due.is(x.lay(63), FULL);
        due.is(x.count(1), 0);
        x.ends(13, 6);
        due.is(x.lay(63), 60);
        x.ends(13, 13);
        due.is(x.lay(63), FULL);
        due.is(x.count(1), 60);
        x.villages("15:1,44:1,66:1");
        due.is(x.lay(0), 1);
        Run y = maze();
        y.ends(13, 6);
        due.is(y.lay(63), 60);
    }

    private static void layFull() {
        due.says("lay: FULL: more than 60");
        Run x = maze();
        x.steps(24, 25);
        due.is(x.ends(13, 6), 48);
        due.is(x.lay(63), 60);
        due.is(x.road(0), 60);
        due.is(x.at(0), 13);
        due.is(x.at(59), 6);
        due.is(x.at(60), BAD);
        due.is(x.ends(13, 13), 1306);
        due.is(x.cheapest(63), 61);
        due.is(x.lay(63), FULL);
        due.is(x.count(1), 60);
        due.is(x.at(0), 13);
        due.is(x.at(59), 6);
        x.leave();
        due.is(x.lay(63), FULL);
        due.is(x.count(1), 0);
        due.is(x.lay(0), 1);
    }

    private static void renewed() {
        due.says("CHEAPEST: by what stands when it is asked for");
        Run x = new Run();
        x.villages("60:20");
        x.ends(0, 6);
        due.is(x.cheapest(1), 17);
        x.make(3, 2, 3);
        due.is(x.cheapest(0), 9);
        x.make(10, 2, 3);
        x.make(17, 2, 3);
        due.is(x.cheapest(0), 12);
        x.make(3, 3, 1);
        due.is(x.cheapest(0), 11);
        x.spring(3);
        due.is(x.cheapest(0), 11);
        x.level(6);
        due.is(x.cheapest(0), 6 * 2 + 6);
        x.level(0);
        x.ends(0, 0);
        due.is(x.cheapest(1), 11);
        due.is(x.village(6, 1), 1);
        due.is(x.cheapest(2), 9 + 2 * 5);
        x.delta("1c");
        due.is(x.cheapest(2), 7 + 2 * 5 + 2 * 6);
        x.image();
        x.delta("1");
        due.is(x.cheapest(2), 19);
        x.restore();
        due.is(x.cheapest(2), 29);
        x.step(0);
        x.leave();
        due.is(x.cheapest(2), 27);
        due.is(x.villages("00:1"), 1);
        due.is(x.cheapest(1), 5);
        x.make(0, 4, 1);
        x.make(0, 1, 3);
        x.make(1, 0, 0);
        x.level(6);
        due.is(x.cheapest(0), 6);
        x.flood();
        due.is(x.cheapest(0), 7);
        x.weight(9, 1);
        x.weeks(1);
        // Mud was 2 when its week came and is 1 behind its flood: 9 less 3.
        due.is(x.cheapest(0), 5 + 6);
    }
}
