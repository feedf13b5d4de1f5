import java.math.BigInteger;

/** Each promise by itself: ordinary inputs, the edges that the document names, wrong inputs; worked out by hand. */
public final class PromisesTest {
    private static final Due due = new Due();
    private static final int BAD = -1, NOT = -2, FULL = -3, NONE = -4, NULL = -11, CAST = -12, INDEX = -13, SIZE = -14;
    private static final int MIN = Integer.MIN_VALUE, MAX = Integer.MAX_VALUE;

    public static void main(String[] args) {
        newObject();
        make();
        told();
        level();
        flood();
        floodInto9();
        type();
        deltaTexts();
        deltaFaults();
        villagesTexts();
        villagesFaults();
        count();
        village();
        of();
        ends();
        cheapest();
        worth();
        vote();
        share();
        lay();
        layFull();
        step();
        back();
        at();
        road();
        sinks();
        toll();
        goes();
        weight();
        odds();
        weeks();
        weeksAndFloods();
        seed();
        leave();
        image();
        leaves();
        sheet();
        drop();
        item();
        film();
        due.end("PromisesTest");
    }

    private static void newObject() {
        Run x = new Run();
        int[] plain = {5, 0, 0, 0, 0, 0, 1, 40};
        for (int cell = 0; cell < 49; cell++) {
            for (int what = 0; what < 8; what++) {
                due.is("1 told " + cell + " " + what, x.told(cell, what), plain[what]);
            }
        }
        for (int what = 0; what < 7; what++) {
            due.is("1 count " + what, x.count(what), 0);
        }
        for (int level = 0; level <= 40; level++) {
            due.is("1 weight " + level, x.weight(level, 0), 0);
        }
        for (int sheet = 0; sheet < 4; sheet++) {
            due.is("1 drop " + sheet, x.drop(sheet), NULL);
        }
        due.is("1 ends", x.ends(0, 48), 48);
        due.is("1 seed", x.seed(1), 1);
        due.is("1 restore", x.restore(), NONE);
        due.is("1 type", x.type(51, 1), 1);
        due.is("1 village", x.village(0, 1), 0);
    }

    private static void make() {
        Run x = new Run();
        int[] first = {5, 0, 0, 0, 0};
        int[] most = {20, 9, 3, 1, 1};
        for (int what = 0; what < 5; what++) {
            due.is("2 make most " + what, x.make(48, what, most[what]), first[what]);
            due.is("2 make above " + what, x.make(48, what, most[what] + 1), BAD);
            due.is("2 make below " + what, x.make(48, what, -1), BAD);
            due.is("2 stays " + what, x.told(48, what), most[what]);
            due.is("2 make least " + what, x.make(48, what, 0), most[what]);
            due.is("2 is least " + what, x.told(48, what), 0);
            due.is("2 others " + what, x.told(47, what), first[what]);
        }
        int[][] wrong = {{-1, 0, 1}, {49, 0, 1}, {MIN, 0, 1}, {MAX, 0, 1}, {0, -1, 1}, {0, 5, 1}, {0, MIN, 1}, {0, MAX, 1},
            {0, 0, MIN}, {0, 0, MAX}};
        for (int[] w : wrong) {
            due.is("2 make wrong", x.make(w[0], w[1], w[2]), BAD);
        }
    }

    private static void told() {
        Run x = new Run();
        x.make(10, 0, 2);
        x.make(10, 4, 1);
        x.level(5);
        int[][] byKind = {{3, 4, 28}, {3, 6, 18}, {3, 5, 18}, {3, 9, 8}};
        for (int kind = 0; kind < 4; kind++) {
            x.make(10, 2, kind);
            for (int what = 5; what < 8; what++) {
                due.is("3 kind " + kind + " told " + what, x.told(10, what), byKind[kind][what - 5]);
            }
        }
        x.make(10, 3, 1);
        due.is("3 cost with bones", x.told(10, 6), 8);
        due.is("3 bears with bones", x.told(10, 7), 23);
        x.make(10, 1, 2);
        due.is("3 mud lifts", x.told(10, 5), 1);
        x.level(40);
        due.is("3 deep", x.told(10, 5), 36);
        due.is("3 deep cost", x.told(10, 6), 41);
        due.is("3 bears 0 at least", x.told(10, 7), 0);
        x.level(0);
        x.make(10, 2, 0);
        due.is("3 cost 1 at least", x.told(10, 6), 1);
        due.is("3 dry bones", x.told(10, 7), 55);
        x.make(10, 2, 3);
        due.is("3 channel", x.told(10, 7), 35);
        int[][] wrong = {{-1, 0}, {49, 0}, {0, -1}, {0, 8}, {MIN, 0}, {MAX, 7}, {0, MIN}, {0, MAX}};
        for (int[] w : wrong) {
            due.is("3 told wrong", x.told(w[0], w[1]), BAD);
        }
    }

    private static void level() {
        Run x = new Run();
        due.is("4 no spring", x.level(40), 0);
        x.make(24, 4, 1);
        due.is("4 at height", x.level(5), 0);
        due.is("4 above height", x.level(6), 49);
        x.make(24, 1, 1);
        due.is("4 spring itself under mud", x.level(6), 0);
        x.make(24, 1, 0);
        for (int column = 0; column < 7; column++) {
            x.make(14 + column, 0, 8);
        }
        due.is("4 behind a ridge", x.level(8), 28);
        due.is("4 low, but not reached", x.told(0, 5), 0);
        due.is("4 reached", x.told(48, 5), 3);
        due.is("4 over the ridge", x.level(9), 49);
        x.make(14, 0, 0);
        due.is("4 a gap", x.level(7), 43);
        x.make(17, 0, 20);
        due.is("4 corners do not hang together", corner(), 1);
        due.is("4 below", x.level(-1), BAD);
        due.is("4 above", x.level(41), BAD);
        due.is("4 far below", x.level(MIN), BAD);
        due.is("4 far above", x.level(MAX), BAD);
        due.is("4 stays", x.count(6), 7);
        due.is("4 most", x.level(40), 49);
        due.is("4 least", x.level(0), 0);
    }

    private static int corner() {
        Run x = new Run();
        x.make(1, 0, 20);
        x.make(7, 0, 20);
        x.make(0, 4, 1);
        return x.level(6);
    }

    private static void flood() {
        Run x = new Run();
        x.make(24, 4, 1);
        x.make(24, 1, 3);
        due.is("5 dry", x.flood(), 0);
        x.level(20);
        due.is("5 one goes", x.flood(), 1);
        due.is("5 up first", x.told(17, 1), 1);
        due.is("5 from", x.told(24, 1), 2);
        due.is("5 two go", x.flood(), 2);
        due.is("5 on and up", x.told(10, 1), 1);
        due.is("5 then left", x.told(23, 1), 1);
        due.is("5 none lost", x.count(3), 3);
        Run y = new Run();
        for (int cell = 0; cell < 49; cell++) {
            y.make(cell, 1, 2);
        }
        y.make(48, 4, 1);
        y.level(8);
        due.is("5 like ones stay", y.flood(), 0);
        y.make(0, 1, 1);
        due.is("5 two sides", y.flood(), 2);
        due.is("5 both came", y.told(0, 1), 3);
        Run z = new Run();
        z.make(24, 1, 5);
        z.make(24, 4, 1);
        z.level(10);
        due.is("5 mud above water stays", z.flood(), 0);
        z.make(25, 0, 2);
        z.make(31, 0, 2);
        z.level(11);
        due.is("5 the lowest", z.flood(), 1);
        due.is("5 right ahead of down", z.told(25, 1), 1);
    }

    private static void floodInto9() {
        Run x = new Run();
        for (int cell = 0; cell < 49; cell++) {
            x.make(cell, 0, 20);
        }
        x.make(24, 0, 0);
        x.make(24, 1, 8);
        x.make(24, 4, 1);
        x.make(17, 1, 1);
        x.make(23, 1, 1);
        x.level(30);
        due.is("5 room for one", x.flood(), 1);
        due.is("5 the first goes", x.told(17, 1), 0);
        due.is("5 the second stays", x.told(23, 1), 1);
        due.is("5 nine", x.told(24, 1), 9);
        due.is("5 no room", x.flood(), 0);
        x.make(17, 0, 0);
        x.make(23, 1, 0);
        x.make(25, 1, 1);
        due.is("5 room by then", x.flood(), 2);
        due.is("5 still nine", x.told(24, 1), 9);
        x.make(17, 1, 9);
        x.make(17, 0, 20);
        x.make(31, 0, 0);
        due.is("5 from ahead: no room yet", x.flood(), 1);
        due.is("5 down has it", x.told(31, 1), 1);
        due.is("5 up keeps it", x.told(17, 1), 9);
    }

    private static void type() {
        Run x = new Run();
        due.is("6 one", x.type('3', 1), 1);
        due.is("6 highest first", x.type(Run.bytes("mbs"), 3), 4);
        due.is("6 that was 3mbs", x.delta(), 1);
        due.is("6 kind", x.told(0, 2), 1);
        due.is("6 only the lowest count", x.type(0xff00L << 48 | '3', 1), 1);
        due.is("6 n 0", x.type('3', 0), BAD);
        due.is("6 n 9", x.type('3', 9), BAD);
        due.is("6 n below", x.type('3', MIN), BAD);
        due.is("6 n above", x.type('3', MAX), BAD);
        due.is("6 byte 31", x.type(31, 1), BAD);
        due.is("6 byte 127", x.type(127, 1), BAD);
        due.is("6 byte 255", x.type(-1, 8), BAD);
        due.is("6 byte 0 inside", x.type('3', 2), BAD);
        due.is("6 32 and 126", x.type(32 * 256 + 126, 2), 3);
        for (int i = 0; i < 17; i++) {
            due.is("6 eight", x.type(Run.bytes("33333333"), 8), 11 + 8 * i > 140 ? FULL : 11 + 8 * i);
        }
        due.is("6 too many", x.type(Run.bytes("33"), 2), FULL);
        due.is("6 just enough", x.type('3', 1), 140);
        due.is("6 full", x.type('3', 1), FULL);
        due.is("6 bad ahead of full", x.type(31, 1), BAD);
        due.is("6 n ahead of full", x.type('3', 9), BAD);
        due.is("6 a fault empties it", x.villages(), -22);
        due.is("6 empty", x.type('3', 1), 1);
    }

    private static void deltaTexts() {
        Run x = new Run();
        x.make(0, 1, 4);
        x.make(0, 3, 1);
        x.make(0, 4, 1);
        x.make(1, 1, 4);
        x.make(8, 1, 4);
        due.is("7 two rows", x.delta("0 9m/8rb 7cbs6s5bs"), 6);
        int[][] want = {{0, 0, 0, 0, 0}, {18, 0, 1, 0, 0}, {5, 0, 0, 0, 0}};
        for (int cell = 0; cell < 3; cell++) {
            for (int what = 0; what < 5; what++) {
                due.is("7 row 0 cell " + cell + " " + what, x.told(cell, what), want[cell][what]);
            }
        }
        int[][] next = {{16, 0, 2, 1, 0}, {14, 0, 3, 1, 1}, {12, 0, 0, 0, 1}, {10, 0, 0, 1, 1}, {5, 0, 0, 0, 0}};
        for (int cell = 0; cell < 5; cell++) {
            for (int what = 0; what < 5; what++) {
                due.is("7 row 1 cell " + cell + " " + what, x.told(7 + cell, what), next[cell][what]);
            }
        }
        due.is("7 the tape is empty then", x.delta(), -20);
        due.is("7 all", x.delta("0000000/0000000/0000000/0000000/0000000/0000000/0000000s"), 49);
        due.is("7 all wet", x.level(1), 49);
        due.is("7 blanks all over", x.delta("   1   r  b  s  /  2  "), 2);
        due.is("7 first", x.told(0, 0), 2);
        due.is("7 second row", x.told(7, 0), 4);
    }

    private static void deltaFaults() {
        Run x = new Run();
        String[] texts = {"", " ", "  x", "m", "/", "3/", "3/ ", "3//3", "3mr", "3bm", "3bb", "3ss", "3sm", "33333333", "3333333 3",
            "3/3/3/3/3/3/3/", "3M", "3:", "3,", "/3", "33/3z3"};
        int[] places = {0, 1, 2, 0, 0, 2, 3, 2, 2, 2, 2, 2, 2, 7, 8, 13, 1, 1, 1, 0, 4};
        for (int i = 0; i < texts.length; i++) {
            due.is("7 fault in '" + texts[i] + "'", x.delta(texts[i]), -20 - places[i]);
            due.is("7 empty behind it", x.type('0', 1), 1);
            due.is("7 empty again", x.villages(), -21);
            due.is("7 stays", x.told(0, 0) * 100 + x.told(7, 0), 505);
        }
    }

    private static void villagesTexts() {
        Run x = new Run();
        x.village(3, 3);
        x.village(4, 4);
        x.village(5, 5);
        due.is("8 in place of those told", x.villages("00:1, 6 6 : 99 "), 2);
        due.is("8 how many", x.count(0), 2);
        due.is("8 first", x.of(0, 0) * 100 + x.of(0, 1), 1);
        due.is("8 second", x.of(1, 0) * 100 + x.of(1, 1), 4899);
        due.is("8 none behind", x.of(2, 0), BAD);
        due.is("8 the tape is empty then", x.villages(), -20);
        due.is("8 six", x.villages("12:7,12:7,12:7,12:7,12:7,12:7"), 6);
        due.is("8 row and column", x.of(5, 0), 9);
        due.is("8 noughts ahead", x.villages("23:0000000000000012"), 1);
        due.is("8 twelve", x.of(0, 1), 12);
    }

    private static void villagesFaults() {
        Run x = new Run();
        x.village(3, 3);
        String[] texts = {"", "   ", "x", "7", "07", "0", "00", "00 ", "00;", "00:", "00:x", "00:0", "00:000", "00:100",
            "00:99999999999999999999999", "00: 100", "00:4294967297", "00:1 2", "00:1x", "00:1,", "00:1,,", "00:1,0",
            "00:1,11:0", "00:1/11:1", "00:1,00:1,00:1,00:1,00:1,00:1,", "00:1 ,  77:1", "00:-1"};
        int[] places = {0, 3, 0, 0, 1, 1, 2, 3, 2, 3, 3, 3, 3, 3, 3, 4, 3, 5, 4, 5, 5, 6, 8, 4, 29, 8, 3};
        for (int i = 0; i < texts.length; i++) {
            due.is("8 fault in '" + texts[i] + "'", x.villages(texts[i]), -20 - places[i]);
            due.is("8 empty behind it", x.type('x', 1), 1);
            due.is("8 empty again", x.delta(), -20);
            due.is("8 stay", x.count(0) * 10000 + x.of(0, 0) * 100 + x.of(0, 1), 10303);
        }
    }

    private static void count() {
        Run x = new Run();
        x.village(0, 1);
        x.village(0, 1);
        x.step(8);
        x.step(9);
        x.step(8);
        x.make(20, 4, 1);
        x.make(20, 0, 0);
        x.level(3);
        x.make(1, 1, 9);
        x.make(2, 1, 2);
        x.make(1, 3, 1);
        x.make(3, 3, 1);
        x.weight(0, 9);
        x.weight(40, 8);
        int[] want = {2, 3, 1, 11, 2, 17, 3};
        for (int what = 0; what < 7; what++) {
            due.is("9 count " + what, x.count(what), want[what]);
        }
        int[] wrong = {-1, 7, MIN, MAX};
        for (int what : wrong) {
            due.is("9 count " + what, x.count(what), BAD);
        }
    }

    private static void village() {
        Run x = new Run();
        int[][] wrong = {{-1, 1}, {49, 1}, {0, 0}, {0, 100}, {0, -1}, {MIN, 1}, {MAX, 1}, {0, MIN}, {0, MAX}};
        for (int[] w : wrong) {
            due.is("10 wrong", x.village(w[0], w[1]), BAD);
        }
        due.is("10 none came", x.count(0), 0);
        int[] cells = {0, 48, 7, 7, 24, 3};
        int[] loads = {1, 99, 5, 6, 7, 8};
        for (int i = 0; i < 6; i++) {
            due.is("10 village " + i, x.village(cells[i], loads[i]), i);
        }
        due.is("10 full", x.village(0, 1), FULL);
        due.is("10 bad ahead of full", x.village(49, 1), BAD);
        due.is("10 bad loads ahead of full", x.village(0, 100), BAD);
        for (int i = 0; i < 6; i++) {
            due.is("11 cell of " + i, x.of(i, 0), cells[i]);
            due.is("11 loads of " + i, x.of(i, 1), loads[i]);
        }
    }

    private static void of() {
        Run x = new Run();
        due.is("11 none yet", x.of(0, 0), BAD);
        x.village(17, 42);
        due.is("11 cell", x.of(0, 0), 17);
        due.is("11 loads", x.of(0, 1), 42);
        int[][] wrong = {{-1, 0}, {1, 0}, {0, -1}, {0, 2}, {MIN, 0}, {MAX, 1}, {0, MIN}, {0, MAX}};
        for (int[] w : wrong) {
            due.is("11 wrong", x.of(w[0], w[1]), BAD);
        }
    }

    private static void ends() {
        Run x = new Run();
        due.is("12 at first", x.ends(48, 7), 48);
        due.is("12 then", x.ends(3, 3), 4807);
        due.is("12 one", x.cheapest(0), 1);
        int[][] wrong = {{-1, 0}, {49, 0}, {0, -1}, {0, 49}, {MIN, 0}, {0, MAX}};
        for (int[] w : wrong) {
            due.is("12 wrong", x.ends(w[0], w[1]), BAD);
        }
        due.is("12 stay", x.ends(0, 48), 303);
    }

    private static void cheapest() {
        Run x = new Run();
        due.is("13 empty set", x.cheapest(0), 13);
        due.is("13 no villages", x.cheapest(1), BAD);
        x.village(6, 10);
        x.village(42, 20);
        due.is("13 one corner", x.cheapest(1), 13);
        due.is("13 the other", x.cheapest(2), 13);
        due.is("13 both", x.cheapest(3), 21);
        int[] wrong = {-1, 4, MIN, MAX};
        for (int set : wrong) {
            due.is("13 wrong " + set, x.cheapest(set), BAD);
        }
        x.ends(24, 24);
        due.is("13 one cell", x.cheapest(0), 1);
        due.is("13 there and back", x.cheapest(1), 9);
        x.village(32, 1);
        due.is("13 no farther than 1, slantwise", x.cheapest(4), 1);
        x.village(38, 1);
        due.is("13 two rows away", x.cheapest(8), 3);
        x.make(24, 2, 3);
        due.is("13 a cell costs each time", x.cheapest(8), 13);
        x.ends(0, 48);
        for (int cell = 21; cell < 28; cell++) {
            x.make(cell, 2, 1);
        }
        x.make(24, 3, 1);
        due.is("13 over the bones", x.cheapest(0), 14);
        x.make(27, 2, 2);
        x.make(27, 3, 1);
        due.is("13 over reed with bones", x.cheapest(0), 13);
        x.make(27, 0, 0);
        x.make(27, 4, 1);
        x.level(2);
        due.is("13 water costs", x.cheapest(0), 14);
        x.make(27, 1, 1);
        due.is("13 mud keeps it dry", x.cheapest(0), 14);
        x.make(27, 1, 2);
        due.is("13 dry", x.cheapest(0), 13);
    }

    private static void worth() {
        Run x = new Run();
        due.is("14 empty", x.worth(0), -13);
        x.village(6, 13);
        x.village(42, 99);
        due.is("14 nothing", x.worth(1), 0);
        due.is("14 one", x.worth(2), 86);
        due.is("14 both", x.worth(3), 91);
        int[] wrong = {-1, 4, MIN, MAX};
        for (int set : wrong) {
            due.is("14 wrong " + set, x.worth(set), -100001);
        }
    }

    private static void vote() {
        Run x = new Run();
        due.is("15 nobody", x.vote(), 0);
        x.village(6, 7);
        due.is("15 on the way", x.vote(), 1);
        x.village(42, 7);
        due.is("15 of like ones the least", x.vote(), 1);
        x.village(42, 1);
        due.is("15 both at the corner pay as much as the detour", x.vote(), 6);
        x.village(0, 1);
        due.is("15 all but", x.vote(), 14);
        x.villages("06:8,60:8");
        due.is("15 the detour paid for: like ones, the least", x.vote(), 1);
        x.villages("06:9,60:9");
        due.is("15 worth the detour", x.vote(), 3);
        x.villages("60:8,06:9");
        due.is("15 the later alone", x.vote(), 2);
    }

    private static void share() {
        Run x = new Run();
        due.is("16 no villages", x.share(0, 0, 0), BAD);
        x.village(6, 1);
        x.village(42, 1);
        x.village(0, 1);
        due.is("16 alone", x.share(1, 0, 0) * 100 + x.share(1, 0, 1), 1301);
        due.is("16 of two", x.share(3, 0, 0) * 100 + x.share(3, 0, 1), 2102);
        due.is("16 the other", x.share(3, 1, 0) * 100 + x.share(3, 1, 1), 2102);
        // Of three: 13 first; 8 behind the other corner alone or with 0, 0 behind 0 alone.
        due.is("16 of three", x.share(7, 0, 0) * 100 + x.share(7, 0, 1), 2503);
        due.is("16 on the way", x.share(7, 2, 0) * 100 + x.share(7, 2, 1), 1303);
        Run y = new Run();
        y.villages("01:10,12:20,23:30,34:40,45:50,56:60");
        for (int village = 0; village < 6; village++) {
            due.is("16 of six, all on the way", y.share(63, village, 0) * 100 + y.share(63, village, 1), 1306);
        }
        int[][] wrong = {{0, 0, 0}, {8, 0, 0}, {-1, 0, 0}, {1, 1, 0}, {5, 1, 1}, {7, 3, 0}, {7, -1, 0}, {7, 0, 2}, {7, 0, -1},
            {MIN, 0, 0}, {MAX, 0, 0}, {7, MIN, 0}, {7, MAX, 0}, {7, 32, 0}, {7, 0, MIN}, {7, 0, MAX}};
        for (int[] w : wrong) {
            due.is("16 wrong", x.share(w[0], w[1], w[2]), BAD);
        }
    }

    private static void lay() {
        Run x = new Run();
        due.is("17 straight", x.lay(0), 13);
        row(x, "17 right ahead of down", 0, 1, 2, 3, 4, 5, 6, 13, 20, 27, 34, 41, 48);
        x.ends(48, 0);
        due.is("17 back", x.lay(0), 13);
        row(x, "17 up ahead of left", 48, 41, 34, 27, 20, 13, 6, 5, 4, 3, 2, 1, 0);
        x.ends(21, 23);
        x.make(22, 2, 1);
        due.is("17 of like cost the fewest", x.lay(0), 3);
        row(x, "17 through the marsh", 21, 22, 23);
        x.make(22, 2, 3);
        due.is("17 around", x.lay(0), 5);
        row(x, "17 up ahead of down", 21, 14, 15, 16, 23);
        x.ends(24, 24);
        due.is("17 one cell", x.lay(0), 1);
        x.village(10, 1);
        due.is("17 up and back", x.lay(1), 3);
        row(x, "17 up and back", 24, 17, 24);
        due.is("17 wrong", x.lay(2), BAD);
        due.is("17 below", x.lay(-1), BAD);
        due.is("17 far above", x.lay(MAX), BAD);
        due.is("17 stays", x.count(1), 3);
    }

    private static void row(Run x, String name, int... cells) {
        for (int i = 0; i < cells.length; i++) {
            due.is(name + " " + i, x.at(i), cells[i]);
        }
        due.is(name + " end", x.at(cells.length), BAD);
    }

    private static void layFull() {
        // A path of 31 dry cells that winds through deep channels; its end is passed and left again.
        String[] walls = {"##.....", ".#.###.", ".#....#", ".####..", ".#...#.", ".#.#.#.", "...#..."};
        int[] villages = {12, 32, 48, 0, 7, 6};
        Run x = new Run();
        for (int cell = 0; cell < 49; cell++) {
            boolean wall = walls[cell / 7].charAt(cell % 7) == '#';
            x.make(cell, 0, wall ? 0 : 20);
            x.make(cell, 1, wall ? 0 : 9);
            x.make(cell, 2, wall ? 3 : 0);
            x.make(cell, 4, wall ? 1 : 0);
        }
        for (int cell : villages) {
            x.village(cell, 1);
        }
        x.level(29);
        x.step(24);
        x.ends(13, 13);
        due.is("17 more than 60", x.lay(63), FULL);
        due.is("17 stays", x.count(1) * 100 + x.at(0), 124);
        due.is("17 cheapest all the same", x.cheapest(63) > 60 ? 1 : 0, 1);
        x.ends(13, 6);
        due.is("17 just 60", x.lay(63), 60);
        due.is("17 its cost", x.road(0), x.cheapest(63));
        due.is("17 its end", x.at(59), 6);
    }

    private static void step() {
        Run x = new Run();
        int[] wrong = {-1, 49, MIN, MAX};
        for (int cell : wrong) {
            due.is("18 wrong", x.step(cell), BAD);
        }
        due.is("18 anywhere first", x.step(13), 1);
        int[] far = {13, 14, 11, 27, 5, 7, 21, 0};
        for (int cell : far) {
            due.is("18 not next " + cell, x.step(cell), NOT);
        }
        for (int cell : wrong) {
            due.is("18 bad ahead of not", x.step(cell), BAD);
        }
        due.is("18 up", x.step(6), 2);
        due.is("18 left", x.step(5), 3);
        due.is("18 down", x.step(12), 4);
        due.is("18 right", x.step(13), 5);
        for (int i = 6; i <= 60; i++) {
            due.is("18 to and fro", x.step(i % 2 == 0 ? 12 : 13), i);
        }
        due.is("18 full", x.step(13), FULL);
        due.is("18 not ahead of full", x.step(40), NOT);
        due.is("18 bad ahead of full", x.step(49), BAD);
        due.is("18 stays", x.count(1), 60);
    }

    private static void back() {
        Run x = new Run();
        due.is("19 none", x.back(1), NOT);
        x.lay(0);
        int[] wrong = {0, -1, 61, MIN, MAX};
        for (int n : wrong) {
            due.is("19 wrong", x.back(n), BAD);
        }
        due.is("19 not so many", x.back(14), NOT);
        due.is("19 sixty", x.back(60), NOT);
        due.is("19 three", x.back(3), 10);
        due.is("19 the last is another", x.at(9), 27);
        due.is("19 gone", x.at(10), BAD);
        due.is("19 on from there", x.step(28), NOT);
        due.is("19 on", x.step(26), 11);
        due.is("19 all", x.back(11), 0);
        due.is("19 anywhere again", x.step(3), 1);
    }

    private static void at() {
        Run x = new Run();
        due.is("20 none", x.at(0), BAD);
        x.step(30);
        x.step(31);
        due.is("20 first", x.at(0), 30);
        due.is("20 second", x.at(1), 31);
        int[] wrong = {-1, 2, 59, 60, MIN, MAX};
        for (int i : wrong) {
            due.is("20 wrong", x.at(i), BAD);
        }
    }

    private static void road() {
        Run x = new Run();
        for (int what = 0; what < 4; what++) {
            due.is("21 none " + what, x.road(what), 0);
        }
        x.village(0, 1);
        x.village(48, 1);
        x.village(33, 1);
        int[] cells = {24, 25, 24, 17, 18, 25, 32};
        for (int cell : cells) {
            x.step(cell);
        }
        due.is("21 cost", x.road(0), 7);
        due.is("21 serves", x.road(1), 4);
        // Back at 25, then up, right, down; straight on at the end.
        due.is("21 bends", x.road(2), 4);
        due.is("21 dry", x.road(3), 0);
        x.make(25, 0, 1);
        x.make(25, 4, 1);
        x.make(24, 2, 2);
        x.level(4);
        due.is("21 costs each time", x.road(0), 3 + 2 * 4 + 2 * 2);
        due.is("21 most water", x.road(3), 3);
        x.back(5);
        due.is("21 no bend at the ends", x.road(2), 0);
        int[] wrong = {-1, 4, MIN, MAX};
        for (int what : wrong) {
            due.is("21 wrong", x.road(what), BAD);
        }
    }

    private static void sinks() {
        Run x = new Run();
        due.is("22 no road", x.sinks(999, 1), NONE);
        x.lay(0);
        due.is("22 just borne", x.sinks(40, 1), NONE);
        due.is("22 more", x.sinks(41, 1), 0);
        due.is("22 divisions are cut", x.sinks(122, 3), NONE);
        due.is("22 not by that", x.sinks(123, 3), 0);
        x.make(0, 3, 1);
        due.is("22 bones bear more", x.sinks(41, 1), 1);
        x.make(3, 2, 1);
        x.make(5, 2, 3);
        due.is("22 marsh", x.sinks(31, 1), 3);
        due.is("22 marsh bears", x.sinks(30, 1), 5);
        due.is("22 channel", x.sinks(21, 1), 5);
        due.is("22 channel bears", x.sinks(20, 1), NONE);
        x.make(48, 0, 0);
        x.make(48, 4, 1);
        x.level(5);
        due.is("22 water", x.sinks(21, 1), 5);
        due.is("22 water bears", x.sinks(20, 1), NONE);
        x.level(1);
        x.make(48, 2, 2);
        due.is("22 reed with water", x.sinks(27, 1), 5);
        x.make(5, 2, 0);
        x.make(3, 2, 0);
        due.is("22 at the end", x.sinks(27, 1), 12);
        due.is("22 borne at the end", x.sinks(26, 1), NONE);
        int[][] wrong = {{0, 1}, {1000, 1}, {1, 0}, {1, 10}, {-1, 1}, {1, -1}, {MIN, 1}, {MAX, 1}, {1, MIN}, {1, MAX}};
        for (int[] w : wrong) {
            due.is("22 wrong", x.sinks(w[0], w[1]), BAD);
        }
        due.is("22 most", x.sinks(999, 9), 0);
        sinksWhereNothingIsBorne();
    }

    private static void sinksWhereNothingIsBorne() {
        Run x = new Run();
        x.make(0, 4, 1);
        x.step(0);
        x.step(1);
        x.level(15);
        due.is("22 bears just 0", x.told(1, 7), 0);
        due.is("22 cut to 0 at just 0", x.sinks(8, 9), NONE);
        due.is("22 1 is more than 0", x.sinks(9, 9), 0);
        x.level(40);
        due.is("22 cut to 0 in deep water", x.sinks(8, 9), NONE);
        due.is("22 1 is more in deep water", x.sinks(9, 9), 0);
        due.is("22 least weight, one axle", x.sinks(1, 1), 0);
        x.make(1, 2, 3);
        due.is("22 a channel bears no less than 0", x.sinks(1, 2), NONE);
        x.level(16);
        x.make(0, 3, 1);
        due.is("22 bones come ahead of the floor", x.sinks(11, 1), 1);
        due.is("22 bones under much water", x.sinks(12, 1), 0);
    }

    private static void toll() {
        Run x = new Run();
        due.is("23 no road", x.toll(1), 0);
        x.step(0);
        x.step(1);
        x.step(0);
        due.is("23 dry", x.toll(9), 0);
        x.make(0, 0, 0);
        x.make(0, 4, 1);
        x.level(3);
        due.is("23 twice wet", x.toll(1), 4);
        due.is("23 nine axles", x.toll(9), 36);
        x.level(6);
        due.is("23 all wet", x.toll(2), 12);
        int[] wrong = {0, 10, -1, MIN, MAX};
        for (int axles : wrong) {
            due.is("23 wrong", x.toll(axles), BAD);
        }
    }

    private static void goes() {
        Run x = new Run();
        x.make(0, 4, 1);
        due.is("24 no road", x.goes(), NONE);
        x.step(8);
        due.is("24 more than 3", x.goes(), 9);
        x.level(40);
        due.is("24 whatever the level", x.goes(), 9);
        due.is("24 the level stays", x.count(6), 40);
        x.make(1, 0, 20);
        x.make(7, 0, 20);
        due.is("24 behind a ridge", x.goes(), 21);
        x.make(1, 1, 9);
        x.make(7, 1, 9);
        due.is("24 behind mud", x.goes(), 30);
        x.make(8, 0, 20);
        x.make(8, 1, 9);
        due.is("24 high", x.goes(), 33);
        x.make(0, 4, 0);
        due.is("24 no spring", x.goes(), NONE);
        x.make(8, 4, 1);
        x.make(8, 0, 0);
        x.make(8, 1, 0);
        due.is("24 low", x.goes(), 4);
    }

    private static void weight() {
        Run x = new Run();
        due.is("25 first", x.weight(0, 9), 0);
        due.is("25 last", x.weight(40, 3), 0);
        int[][] wrong = {{-1, 1}, {41, 1}, {0, -1}, {0, 10}, {MIN, 1}, {MAX, 1}, {0, MIN}, {0, MAX}};
        for (int[] w : wrong) {
            due.is("25 wrong", x.weight(w[0], w[1]), BAD);
        }
        due.is("25 stays", x.count(5), 12);
        due.is("25 was", x.weight(0, 0), 9);
        due.is("25 was too", x.weight(40, 0), 3);
    }

    private static void odds() {
        Run x = new Run();
        due.is("26 no weights", x.odds(1, 0), NOT);
        int[][] wrong = {{0, 0}, {7, 0}, {1, -1}, {1, 2}, {-1, 0}, {MIN, 0}, {MAX, 0}, {1, MIN}, {1, MAX}};
        for (int[] w : wrong) {
            due.is("26 bad ahead of not", x.odds(w[0], w[1]), BAD);
        }
        x.weight(0, 3);
        x.weight(9, 1);
        for (int[] w : wrong) {
            due.is("26 wrong", x.odds(w[0], w[1]), BAD);
        }
        due.is("26 no road", x.odds(3, 0) * 10 + x.odds(3, 1), 1);
        x.step(24);
        due.is("26 dry", x.odds(3, 0) * 10 + x.odds(3, 1), 1);
        x.make(24, 4, 1);
        due.is("26 a week", x.odds(1, 0) * 10 + x.odds(1, 1), 14);
        due.is("26 two", x.odds(2, 0) * 100 + x.odds(2, 1), 716);
        due.is("26 six", x.odds(6, 0) * 10000 + x.odds(6, 1), 33674096);
        x.weight(0, 1);
        due.is("26 lowest terms", x.odds(1, 0) * 10 + x.odds(1, 1), 12);
        x.weight(0, 0);
        due.is("26 sure", x.odds(6, 0) * 10 + x.odds(6, 1), 11);
        due.is("26 the level stays", x.count(6), 0);
        for (int level = 0; level <= 40; level++) {
            x.weight(level, 9);
        }
        x.weight(0, 7);
        BigInteger below = BigInteger.valueOf(367).pow(6);
        due.is("26 far below", x.odds(6, 1), below.longValueExact());
        due.is("26 far above", x.odds(6, 0), below.subtract(BigInteger.valueOf(79).pow(6)).longValueExact());
    }

    private static void weeks() {
        Run x = new Run();
        x.make(24, 4, 1);
        x.step(24);
        due.is("27 no weights", x.weeks(1), NOT);
        int[] wrong = {0, -1, 61, MIN, MAX};
        for (int n : wrong) {
            due.is("27 bad ahead of not", x.weeks(n), BAD);
        }
        x.weight(0, 1);
        x.weight(9, 1);
        due.is("27 wrong", x.weeks(61), BAD);
        due.is("27 nothing drawn", x.seed(1), 1);
        // The draws, by 65536: 16838, 5758, 10113, 17515, 31051.
        due.is("27 not in two", x.weeks(2), NONE);
        due.is("27 dry", x.count(6), 0);
        due.is("27 in the next", x.weeks(60), 1);
        due.is("27 wet", x.count(6), 9);
        due.is("27 and on", x.weeks(1), 1);
        x.seed(1);
        due.is("27 in the third", x.weeks(60), 3);
        x.weight(0, 0);
        x.weight(9, 0);
        x.weight(4, 5);
        x.weight(7, 6);
        x.weight(30, 4);
        x.seed(1);
        // By 15: 8, 13, 3.
        due.is("27 counted through: 7", x.weeks(1) * 100 + x.count(6), NONE * 100 + 7);
        due.is("27 counted through: 30", x.weeks(1) * 100 + x.count(6), 130);
        due.is("27 counted through: 4", x.weeks(1) * 100 + x.count(6), NONE * 100 + 4);
        x.leave();
        due.is("27 no road", x.weeks(60), NONE);
    }

    private static void weeksAndFloods() {
        Run x = new Run();
        x.make(24, 4, 1);
        x.make(24, 1, 9);
        x.weight(20, 1);
        x.step(24);
        due.is("27 ahead of its flood", x.weeks(60), 1);
        due.is("27 it has this flood, too", x.told(24, 1), 8);
        due.is("27 one flood only", x.count(3) * 10 + x.told(17, 1), 91);
        x.leave();
        due.is("27 three weeks", x.weeks(3), NONE);
        due.is("27 three floods", x.told(24, 1), 5);
        Run y = new Run();
        y.make(24, 4, 1);
        y.make(24, 1, 4);
        y.make(17, 1, 4);
        y.make(23, 1, 4);
        y.make(25, 1, 4);
        y.make(31, 1, 4);
        y.make(24, 0, 6);
        y.weight(11, 1);
        y.step(24);
        due.is("27 the mud is carried off till it goes", y.weeks(60), 4);
    }

    private static void seed() {
        Run x = new Run();
        due.is("28 at first", x.seed(0), 1);
        due.is("28 0", x.seed(MAX), 0);
        due.is("28 below", x.seed(-1), BAD);
        due.is("28 far below", x.seed(MIN), BAD);
        x.weight(0, 1);
        x.weeks(1);
        due.is("28 drawn", x.seed(1), (int) ((MAX * 1103515245L + 12345L) & MAX));
        x.weeks(1);
        due.is("28 drawn from 1", x.seed(1), 1103527590);
    }

    private static void leave() {
        Run x = new Run();
        due.is("29 no road", x.leave(), 0);
        int[] cells = {0, 1, 0, 7, 14};
        for (int cell : cells) {
            x.step(cell);
        }
        x.make(7, 3, 1);
        x.make(14, 2, 1);
        due.is("29 had none", x.leave(), 3);
        due.is("29 empty", x.count(1), 0);
        due.is("29 bones", x.count(4), 4);
        due.is("29 cheaper now", x.told(14, 6), 2);
        due.is("29 again", x.leave(), 0);
        x.step(0);
        due.is("29 had all", x.leave(), 0);
    }

    private static void image() {
        Run x = new Run();
        due.is("31 none", x.restore(), NONE);
        fill(x, 1);
        due.is("30 image", x.image(), 1);
        fill(x, 2);
        x.sheet(1, 1, 7);
        due.is("30 changed", sum(x), 2);
        x.type(Run.bytes("7/7"), 3);
        due.is("31 restore", x.restore(), 1);
        due.is("31 as it was", sum(x), 1);
        due.is("31 sheets stay", x.drop(1), 7);
        due.is("31 the tape stays", x.delta(), 2);
        due.is("31 once more", x.restore(), 1);
        due.is("31 as it was again", sum(x), 1);
        fill(x, 2);
        due.is("30 a new image", x.image(), 1);
        fill(x, 1);
        due.is("31 the new one", x.restore(), 1);
        due.is("31 as it was newly", sum(x), 2);
    }

    /** All that an image keeps, so that each thing differs between the two. */
    private static void fill(Run x, int n) {
        for (int what = 0; what < 5; what++) {
            x.make(30, what, n - 1);
            x.make(31, what, 2 - n);
        }
        x.level(n);
        x.villages(n == 1 ? "12:7" : "33:8,44:9");
        x.ends(n, 40 + n);
        x.leave();
        x.step(n);
        if (n == 2) {
            x.step(1);
        }
        x.weight(3, n);
        x.weight(4, n - 1);
        x.seed(1000 + n);
    }

    private static int sum(Run x) {
        for (int n = 1; n <= 2; n++) {
            boolean all = x.count(6) == n && x.count(0) == n && x.count(1) == n && x.count(5) == 2 * n - 1;
            for (int what = 0; what < 5; what++) {
                all &= x.told(30, what) == n - 1 && x.told(31, what) == 2 - n;
            }
            all &= x.of(0, 0) == (n == 1 ? 9 : 24) && x.of(0, 1) == 6 + n && x.at(0) == n;
            int ends = x.ends(n, 40 + n);
            int seed = x.seed(1000 + n);
            if (all && ends == 101 * n + 40 && seed == 1000 + n) {
                return n;
            }
            x.ends(ends / 100, ends % 100);
            x.seed(seed);
        }
        return 0;
    }

    private static void leaves() {
        Run x = new Run();
        x.sheet(0, 2, 5);
        due.is("32 no villages", x.leaves(1, 0, 2, 0), BAD);
        x.villages("06:1,60:1,33:1");
        int[] told = {10, 11, 5, 0, 0};
        for (int i = 0; i < 5; i++) {
            x.item(0, 2, i, told[i]);
        }
        // Alone 13 each; a corner with the middle 15; the corners together 21, with the middle too.
        due.is("32 none would leave", x.leaves(3, 0, 2, 0), NONE);
        due.is("32 one item for each of the set", x.leaves(5, 0, 2, 0), 5);
        due.is("32 from one on", x.leaves(6, 0, 2, 1), 6);
        due.is("32 the last two", x.leaves(7, 0, 2, 0), 6);
        x.item(0, 2, 0, 14);
        due.is("32 alone", x.leaves(7, 0, 2, 0), 1);
        x.item(0, 2, 0, -14);
        due.is("32 below 0", x.leaves(7, 0, 2, 0), 6);
        x.item(0, 2, 0, MAX);
        x.item(0, 2, 1, MAX);
        due.is("32 far above", x.leaves(3, 0, 2, 0), 1);
        x.item(0, 2, 0, MIN);
        x.item(0, 2, 1, MIN);
        due.is("32 far below", x.leaves(3, 0, 2, 0), NONE);
        due.is("32 just in", x.leaves(7, 0, 2, 2), NONE);
        int[][] wrong = {{0, 0, 2, 0, BAD}, {8, 0, 2, 0, BAD}, {-1, 0, 2, 0, BAD}, {1, -1, 2, 0, BAD}, {1, 4, 2, 0, BAD},
            {1, 0, -1, 0, BAD}, {1, 0, 3, 0, BAD}, {1, 1, 2, 99, NULL}, {1, 0, 1, 99, CAST}, {1, 0, 2, 5, INDEX},
            {7, 0, 2, 3, INDEX}, {1, 0, 2, -1, INDEX}, {1, 0, 2, MIN, INDEX}, {1, 0, 2, MAX, INDEX}, {0, 1, 0, -1, BAD}};
        for (int[] w : wrong) {
            due.is("32 wrong", x.leaves(w[0], w[1], w[2], w[3]), w[4]);
        }
    }

    private static void sheet() {
        Run x = new Run();
        int[][] wrong = {{-1, 0, 1, BAD}, {4, 0, 1, BAD}, {0, -1, 1, BAD}, {0, 3, 1, BAD}, {0, 0, 25, BAD}, {0, 0, MAX, BAD},
            {0, 0, -1, SIZE}, {0, 0, MIN, SIZE}, {4, 0, -1, BAD}, {0, 3, -1, BAD}};
        for (int[] w : wrong) {
            due.is("33 wrong", x.sheet(w[0], w[1], w[2]), w[3]);
        }
        due.is("33 nothing yet", x.drop(0), NULL);
        due.is("33 none", x.sheet(0, 0, 0), 0);
        due.is("33 most", x.sheet(3, 2, 24), 24);
        x.village(24, 1);
        x.item(3, 2, 0, 99);
        due.is("33 written", x.leaves(1, 3, 2, 0), 1);
        due.is("33 size, held", x.sheet(3, 2, -1), SIZE);
        due.is("33 still written", x.leaves(1, 3, 2, 0), 1);
        due.is("33 a new row", x.sheet(3, 2, 24), 24);
        due.is("33 is empty", x.leaves(1, 3, 2, 0), NONE);
        x.villages("00:1,00:1,00:1");
        x.ends(0, 0);
        due.is("33 all of it 0", x.leaves(7, 3, 2, 0), NONE);
        due.is("33 another lane", x.sheet(3, 1, 2), 2);
        due.is("33 not as before", x.item(3, 2, 0, 1), CAST);
        due.is("33 as now", x.item(3, 1, 1, 1), 1);
        due.is("33 shorter", x.item(3, 1, 2, 1), INDEX);
    }

    private static void drop() {
        Run x = new Run();
        int[] wrong = {-1, 4, MIN, MAX};
        for (int sheet : wrong) {
            due.is("34 wrong", x.drop(sheet), BAD);
        }
        due.is("34 nothing", x.drop(2), NULL);
        x.sheet(2, 0, 0);
        due.is("34 none", x.drop(2), 0);
        due.is("34 nothing again", x.drop(2), NULL);
        x.sheet(2, 1, 24);
        due.is("34 all", x.drop(2), 24);
        due.is("34 no item", x.item(2, 1, 0, 0), NULL);
    }

    private static void item() {
        Run x = new Run();
        x.village(24, 1);
        for (int lane = 0; lane < 3; lane++) {
            x.sheet(lane, lane, 3);
        }
        int[][] wrong = {{-1, 0, 0, BAD}, {4, 0, 0, BAD}, {0, -1, 0, BAD}, {0, 3, 0, BAD}, {3, 0, -1, NULL}, {0, 1, -1, CAST},
            {1, 2, 3, CAST}, {0, 0, -1, INDEX}, {0, 0, 3, INDEX}, {0, 0, MIN, INDEX}, {0, 0, MAX, INDEX}};
        for (int[] w : wrong) {
            due.is("35 wrong", x.item(w[0], w[1], w[2], 1), w[3]);
        }
        // What is in an item shows by whether a village would leave: a road past it costs 13.
        int[][] asByte = {{14, 1}, {13, NONE}, {127, 1}, {128, NONE}, {256 + 14, 1}, {255, NONE}, {-242, 1}};
        for (int[] v : asByte) {
            due.is("35 byte", x.item(0, 0, 2, v[0]), 1);
            due.is("35 byte " + v[0], x.leaves(1, 0, 0, 2), v[1]);
        }
        int[][] asShort = {{14, 1}, {256, 1}, {32767, 1}, {32768, NONE}, {65536 + 14, 1}, {65536, NONE}};
        for (int[] v : asShort) {
            due.is("35 short", x.item(1, 1, 2, v[0]), 1);
            due.is("35 short " + v[0], x.leaves(1, 1, 1, 2), v[1]);
        }
        int[][] asInt = {{14, 1}, {13, NONE}, {65536, 1}, {MAX, 1}, {MIN, NONE}};
        for (int[] v : asInt) {
            due.is("35 int", x.item(2, 2, 2, v[0]), 1);
            due.is("35 int " + v[0], x.leaves(1, 2, 2, 2), v[1]);
        }
        due.is("35 others stay", x.leaves(1, 2, 2, 1), NONE);
    }

    private static void film() {
        int[] water = {0, 15, 15, 15, 15, 19, 20};
        for (int lane = 0; lane < 3; lane++) {
            Run x = lakeInRow5();
            x.sheet(1, lane, 9);
            due.is("36 film", x.film(5, 1, lane, 2), 7);
            due.is("36 too far", x.film(5, 1, lane, 3), INDEX);
            for (int i = 0; i < 9; i++) {
                due.is("36 item " + i, x.itemOr1(1, lane, i), i < 2 ? 1 : Math.max(1, water[i - 2]));
            }
        }
        Run x = lakeInRow5();
        x.sheet(1, 2, 9);
        int[][] wrong = {{-1, 1, 2, 0, BAD}, {7, 1, 2, 0, BAD}, {0, -1, 2, 0, BAD}, {0, 4, 2, 0, BAD}, {0, 1, 3, 0, BAD},
            {0, 1, -1, 0, BAD}, {0, 0, 2, -1, NULL}, {0, 1, 0, -1, CAST}, {0, 1, 2, -1, INDEX}, {0, 1, 2, MIN, INDEX},
            {0, 1, 2, MAX, INDEX}, {7, 0, 2, 0, BAD}};
        for (int[] w : wrong) {
            due.is("36 wrong", x.film(w[0], w[1], w[2], w[3]), w[4]);
        }
        x.sheet(2, 0, 6);
        due.is("36 too short", x.film(0, 2, 0, 0), INDEX);
        x.film(5, 1, 2, 2);
        x.level(40);
        due.is("36 anew", x.film(5, 1, 2, 0), 7);
        due.is("36 the deepest", x.itemOr1(1, 2, 6), 40);
        due.is("36 the first", x.itemOr1(1, 2, 0), 20);
        due.is("36 not beyond", x.itemOr1(1, 2, 7), 19);
    }

    private static Run lakeInRow5() {
        Run x = new Run();
        x.make(41, 4, 1);
        x.make(41, 0, 0);
        x.make(40, 0, 1);
        x.make(34, 0, 2);
        x.make(35, 0, 20);
        x.level(20);
        return x;
    }
}
