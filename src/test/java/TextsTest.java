/** The tape, deltas and villages as texts, promises 6 to 8: each sentence that names a boundary, by itself. */
public final class TextsTest {
    private static final Due due = new Due();
    private static final int BAD = -1, FULL = -3;
    private static final int MIN = Integer.MIN_VALUE, MAX = Integer.MAX_VALUE;

    public static void main(String[] args) {
        highestFirst();
        numberOfBytes();
        bytesThatMayBe();
        full();
        emptyThen();
        rowsAndCells();
        rowsThatAreNone();
        digits();
        kindsBonesSprings();
        orderOfSigns();
        cellsBecomeSo();
        othersStay();
        deltaBlanks();
        deltaEnds();
        deltaStays();
        villagesOneToSix();
        twoDigits();
        numbers();
        villagesBlanks();
        villagesEnds();
        villagesStay();
        everySign();
        due.end("TextsTest");
    }

    private static void highestFirst() {
        due.says("The n lowest bytes (1 .. 8) of w, of these the highest first, come behind THE TAPE: how many it has");
        Run x = new Run();
        due.is(x.type(Run.bytes("12345678"), 1), 1);
        due.is(x.type(Run.bytes("12/mb67s"), 3), 4);
        due.is(x.type(Run.bytes("zzzz/123"), 4), 8);
        due.is(x.delta(), 6);
        int[] heights = {16, 12, 14, 5};
        for (int cell = 0; cell < 4; cell++) {
            due.is(x.told(cell, 0), heights[cell]);
        }
        due.is(x.told(2, 4), 1);
        due.is(x.told(7, 0), 2);
        due.is(x.told(9, 0), 6);
        due.is(x.type(Run.bytes("1234567/"), 8), 8);
        due.is(x.type(Run.bytes("7654321"), 7), 15);
        due.is(x.delta(), 14);
        due.is(x.told(6, 0), 14);
        due.is(x.told(7, 0), 14);
        due.is(x.told(13, 0), 2);
    }

    private static void numberOfBytes() {
        due.says("type: BAD: n");
        Run x = new Run();
        int[] wrong = {0, 9, -1, 16, 64, MIN, MAX};
        for (int n : wrong) {
            due.is(x.type(Run.bytes("33333333"), n), BAD);
        }
        int length = 0;
        for (int n = 1; n <= 8; n++) {
            length += n;
            due.is(x.type(Run.bytes("33333333"), n), length);
        }
    }

    private static void bytesThatMayBe() {
        due.says("type: BAD: a byte not 32 .. 126");
        Run x = new Run();
        int length = 0;
        for (int sign = 0; sign < 256; sign++) {
            boolean may = sign >= 32 && sign <= 126;
            length += may ? 1 : 0;
            due.is(x.type(sign, 1), may ? length : BAD);
        }
        int[] none = {0, 31, 127, 128, 255};
        for (int sign : none) {
            for (int place = 0; place < 8; place++) {
                long w = Run.bytes("33333333") & ~(255L << 8 * place) | (long) sign << 8 * place;
                due.is(x.type(w, 8), BAD);
                if (place > 0) {
                    due.is(x.type(w, place + 1), BAD);
                }
            }
        }
        due.says("The n lowest bytes (1 .. 8) of w: others do not count");
        Run y = new Run();
        due.is(y.type(0xffffffffffffff33L, 1), 1);
        due.is(y.type(0x00ffffffffff3333L, 2), 3);
        due.is(y.type(0x8033333333333333L, 7), 10);
        due.is(y.type(0x8033333333333333L, 8), BAD);
        due.is(y.type(0x7e7e7e7e7e7e7e7eL, 8), 18);
        due.is(y.type(0x2020202020202020L, 8), 26);
    }

    private static void full() {
        due.says("type: FULL: 140");
        for (int n = 1; n <= 8; n++) {
            Run x = new Run().typed("3".repeat(140 - n));
            due.is(x.type(Run.bytes("44444444"), n), 140);
            due.is(x.type('4', 1), FULL);
            due.is(x.type(Run.bytes("44444444"), 8), FULL);
            Run y = new Run().typed("3".repeat(141 - n));
            due.is(y.type(Run.bytes("44444444"), n), FULL);
            for (int left = 140 - (141 - n); left > 0; left--) {
                due.is(y.type('4', 1), 141 - left);
            }
            due.is(y.type('4', 1), FULL);
        }
        due.says("type: FULL: 140: what stands is whole, and is a text");
        Run z = new Run();
        String text = "1mbs".repeat(7) + "/" + "2rbs".repeat(7) + "/" + "3cbs".repeat(7) + "/" + "4   ".repeat(7) + "/5bs6cbs7s8r9m";
        z.typed(text + " ".repeat(140 - text.length()));
        due.is(z.type('1', 1), FULL);
        due.is(z.delta(), 33);
        due.is(z.told(32, 0), 18);
        due.is(z.told(32, 2), 1);
    }

    private static void emptyThen() {
        due.says("THE TAPE, which is empty then: behind a DELTA, VILLAGES, FAULTS of both");
        Run x = new Run();
        due.is(x.delta("12"), 2);
        due.is(x.type('3', 1), 1);
        due.is(x.delta(), 1);
        due.is(x.delta(), -20);
        due.is(x.villages("00:1"), 1);
        due.is(x.type('3', 1), 1);
        due.is(x.delta(), 1);
        due.is(x.villages(), -20);
        due.is(x.delta("12x"), -22);
        due.is(x.type('3', 1), 1);
        due.is(x.delta(), 1);
        due.is(x.villages("00:1x"), -24);
        due.is(x.type('3', 1), 1);
        due.is(x.delta(), 1);
        x.typed("3".repeat(140));
        due.is(x.delta(), -27);
        due.is(x.type('3', 1), 1);
    }

    private static void rowsAndCells() {
        due.says("A DELTA is a TEXT: 1 to 7 ROWS with / between, of 1 to 7 CELLS each from the first on");
        for (int rows = 1; rows <= 7; rows++) {
            for (int columns = 1; columns <= 7; columns++) {
                Run x = new Run();
                String row = "9876543".substring(0, columns);
                due.is(x.delta(row + ("/" + row).repeat(rows - 1)), rows * columns);
                for (int cell = 0; cell < 49; cell++) {
                    boolean told = cell / 7 < rows && cell % 7 < columns;
                    due.is(x.told(cell, 0), told ? 18 - cell % 7 * 2 : 5);
                }
            }
        }
        due.says("of 1 to 7 CELLS each: not all the same");
        Run y = new Run();
        due.is(y.delta("1/2222222/3/44/555/6666/7"), 19);
        int[] told = {0, 7, 13, 14, 21, 22, 28, 30, 35, 38, 42};
        for (int cell : told) {
            due.is(y.told(cell, 0), 2 + cell / 7 * 2);
        }
        int[] others = {1, 6, 15, 23, 31, 39, 43, 48};
        for (int cell : others) {
            due.is(y.told(cell, 0), 5);
        }
    }

    private static void rowsThatAreNone() {
        Run x = new Run();
        due.says("1 to 7 ROWS: an eighth");
        due.is(x.delta("1/1/1/1/1/1/1/1"), -33);
        due.is(x.delta("1/1/1/1/1/1/1/"), -33);
        due.is(x.delta("1111111/1111111/1111111/1111111/1111111/1111111/1111111/"), -75);
        due.says("1 to 7 ROWS: none");
        due.is(x.delta(), -20);
        due.says("of 1 to 7 CELLS each: an eighth");
        due.is(x.delta("11111111"), -27);
        due.is(x.delta("1mbs1mbs1mbs1mbs1mbs1mbs1mbs1mbs"), -48);
        due.is(x.delta("1/11111111"), -29);
        due.is(x.delta("1/1/1/1/1/1/11111111"), -39);
        due.says("of 1 to 7 CELLS each: none");
        due.is(x.delta("/"), -20);
        due.is(x.delta("/1"), -20);
        due.is(x.delta("1//1"), -22);
        due.is(x.delta("1/"), -22);
        due.is(x.delta("1111111/"), -28);
        due.is(x.told(0, 0), 5);
    }

    private static void digits() {
        due.says("a digit (2 times it is the HEIGHT)");
        Run x = new Run();
        for (int digit = 0; digit < 10; digit++) {
            due.is(x.delta(String.valueOf(digit)), 1);
            due.is(x.told(0, 0), 2 * digit);
        }
        due.is(x.delta("10"), 2);
        due.is(x.told(0, 0), 2);
        due.is(x.told(1, 0), 0);
        due.is(x.delta("/"), -20);
        due.is(x.delta(":"), -20);
        due.is(x.delta("-1"), -20);
    }

    private static void kindsBonesSprings() {
        due.says("perhaps m r c (MARSH, REED, CHANNEL; DRY), perhaps b (BONES), perhaps s (a SPRING)");
        String[] kinds = {"", "m", "r", "c"};
        for (int kind = 0; kind < 4; kind++) {
            for (int bones = 0; bones < 2; bones++) {
                for (int spring = 0; spring < 2; spring++) {
                    Run x = new Run();
                    String cell = "3" + kinds[kind] + (bones == 1 ? "b" : "") + (spring == 1 ? "s" : "");
                    due.is(x.delta(cell + "4"), 2);
                    due.is(x.told(0, 2), kind);
                    due.is(x.told(0, 3), bones);
                    due.is(x.told(0, 4), spring);
                    due.is(x.told(1, 0), 8);
                    due.is(x.told(1, 2), 0);
                    due.is(x.told(1, 3), 0);
                    due.is(x.told(1, 4), 0);
                }
            }
        }
    }

    private static void orderOfSigns() {
        due.says("the place of the first byte that can't stand there");
        Run x = new Run();
        String signs = "mrcbs";
        for (int a = 0; a < 5; a++) {
            due.is(x.delta(signs.substring(a, a + 1)), -20);
            due.is(x.delta("1/" + signs.charAt(a)), -22);
            for (int b = 0; b < 5; b++) {
                // Kinds share one place ahead of b, b stands ahead of s, none stands twice.
                boolean may = Math.max(a, 2) < Math.max(b, 2);
                due.is(x.delta("3" + signs.charAt(a) + signs.charAt(b)), may ? 1 : -22);
            }
        }
        due.is(x.delta("3mbsm"), -24);
        due.is(x.delta("3mbsb"), -24);
        due.is(x.delta("3mbss"), -24);
        due.is(x.delta("3mbs3"), 2);
    }

    private static void cellsBecomeSo() {
        due.says("these become so (no MUD; BONES, a SPRING, as told)");
        Run x = new Run();
        for (int cell = 0; cell < 2; cell++) {
            x.pile(cell, 7, 9);
            x.make(cell, 2, 3);
            x.make(cell, 3, 1);
            x.make(cell, 4, 1);
        }
        due.is(x.delta("0"), 1);
        int[] first = {0, 0, 0, 0, 0};
        int[] second = {7, 9, 3, 1, 1};
        for (int what = 0; what < 5; what++) {
            due.is(x.told(0, what), first[what]);
            due.is(x.told(1, what), second[what]);
        }
        due.is(x.count(3), 9);
        due.is(x.count(4), 1);
    }

    private static void othersStay() {
        due.says("others stay");
        Run x = new Run();
        x.pile(6, 7, 3).make(6, 2, 2);
        x.pile(14, 8, 4).make(14, 3, 1);
        x.villages("33:7");
        x.level(3);
        x.step(9);
        due.is(x.delta("999999/9"), 7);
        due.is(x.told(6, 0), 7);
        due.is(x.told(6, 1), 3);
        due.is(x.told(6, 2), 2);
        due.is(x.told(14, 0), 8);
        due.is(x.told(14, 1), 4);
        due.is(x.told(14, 3), 1);
        due.is(x.told(8, 0), 5);
        due.is(x.count(0), 1);
        due.is(x.count(1), 1);
        due.is(x.count(6), 3);
        due.is(x.delta("0s"), 1);
        due.is(x.count(2), 1);
    }

    private static void deltaBlanks() {
        due.says("(blanks do not count");
        Run x = new Run();
        due.is(x.delta("   1"), 1);
        due.is(x.delta("1   "), 1);
        due.is(x.delta(" 1 m b s 2 / 3 "), 3);
        due.is(x.told(0, 2), 1);
        due.is(x.told(0, 3), 1);
        due.is(x.told(0, 4), 1);
        due.is(x.told(7, 0), 6);
        due.is(x.delta("1 1"), 2);
        due.is(x.delta("1 1 1 1 1 1 1"), 7);
        due.is(x.delta("1 1 1 1 1 1 1 1"), -34);
        due.is(x.delta("1 m r"), -24);
        due.is(x.delta("  x"), -22);
        due.is(x.delta("1  x"), -23);
        due.is(x.delta("1 / / 1"), -24);
        due.is(x.delta("1/1/1/1/1/1/1 /"), -34);
    }

    private static void deltaEnds() {
        due.says("(the end: how many bytes there are)");
        Run x = new Run();
        due.is(x.delta(), -20);
        due.is(x.delta(" "), -21);
        due.is(x.delta("   "), -23);
        due.is(x.delta("1/"), -22);
        due.is(x.delta("1/  "), -24);
        due.is(x.delta("1/1/1/1/1/1/"), -32);
        due.is(x.delta(" ".repeat(140)), -160);
        due.is(x.delta(" ".repeat(139) + "/"), -159);
        due.is(x.delta(" ".repeat(139) + "1"), 1);
        due.is(x.delta(" ".repeat(138) + "1/"), -160);
    }

    private static void deltaStays() {
        due.says("A FAULT (THE DELTA stays)");
        Run x = new Run();
        x.pile(0, 6, 2).make(0, 2, 1);
        x.spring(0).make(0, 3, 1);
        x.level(9);
        String[] texts = {"9c/9c/9cx", "9c/", "9c9c9c9c9c9c9c9c", "9cc", "9 9 9 9 9 /", "9/9/9/9/9/9/9/9"};
        int[] faults = {-28, -23, -34, -22, -31, -33};
        int[] stays = {6, 2, 1, 1, 1, 1, 3, 41};
        for (int i = 0; i < texts.length; i++) {
            due.is(x.delta(texts[i]), faults[i]);
            for (int what = 0; what < 8; what++) {
                due.is(x.told(0, what), stays[what]);
            }
            due.is(x.told(1, 0), 5);
            due.is(x.told(7, 0), 5);
            due.is(x.count(2), 49);
        }
    }

    private static void villagesOneToSix() {
        due.says("VILLAGES are a TEXT: 1 to 6 with , between .. in place of those told");
        for (int number = 1; number <= 6; number++) {
            Run x = new Run();
            x.villages("66:1,66:2,66:3,66:4");
            due.is(x.villages("00:10" + ",12:34".repeat(number - 1)), number);
            due.is(x.count(0), number);
            due.is(x.of(0, 0), 0);
            due.is(x.of(0, 1), 10);
            for (int i = 1; i < number; i++) {
                due.is(x.of(i, 0), 9);
                due.is(x.of(i, 1), 34);
            }
            due.is(x.of(number, 0), BAD);
            due.is(x.village(3, 3), number < 6 ? number : FULL);
        }
        Run y = new Run();
        due.says("1 to 6 with , between: a seventh");
        due.is(y.villages("00:1,00:1,00:1,00:1,00:1,00:1,00:1"), -49);
        due.is(y.villages("00:1,00:1,00:1,00:1,00:1,00:1,"), -49);
        due.says("1 to 6 with , between: none");
        due.is(y.villages(), -20);
        due.is(y.villages(","), -20);
        due.is(y.villages("00:1,"), -25);
        due.is(y.villages("00:1,,00:1"), -25);
        due.is(y.villages(",00:1"), -20);
        due.is(y.villages("00:1/00:1"), -24);
        due.is(y.villages("00:1;"), -24);
        due.is(y.count(0), 0);
    }

    private static void twoDigits() {
        due.says("two digits 0 .. 6 (ROW, COLUMN)");
        Run x = new Run();
        for (int row = 0; row < 10; row++) {
            for (int column = 0; column < 10; column++) {
                int answer = row > 6 ? -20 : column > 6 ? -21 : 1;
                due.is(x.villages(row + "" + column + ":5"), answer);
                if (answer == 1) {
                    due.is(x.of(0, 0), 7 * row + column);
                }
            }
        }
        due.is(x.villages("0:5"), -21);
        due.is(x.villages(":5"), -20);
        due.is(x.villages("000:5"), -22);
        due.is(x.villages("00,5"), -22);
        due.is(x.villages("00::5"), -23);
        due.is(x.villages("00:5,70:5"), -25);
        due.is(x.villages("00:5,07:5"), -26);
        due.is(x.villages("a0:5"), -20);
        due.is(x.villages("0/:5"), -21);
    }

    private static void numbers() {
        due.says("and a number (LOADS)");
        Run x = new Run();
        for (int loads = 1; loads <= 99; loads++) {
            due.is(x.villages("00:" + loads), 1);
            due.is(x.of(0, 1), loads);
        }
        due.says("of a number that may not be its first byte");
        String[] none = {"0", "00", "000", "100", "101", "999", "1000", "1005", "10005", "100005", "261", "65541", "2147483653",
            "4294967301", "18446744073709551621", "9".repeat(30)};
        Run y = new Run();
        for (String number : none) {
            due.is(y.villages("00:" + number), -23);
            due.is(y.villages("12:3,00:  " + number + ",xx"), -30);
        }
        due.is(y.villages("00:" + "9".repeat(137)), -23);
        due.is(y.villages("00:" + "0".repeat(137)), -23);
        due.is(y.count(0), 0);
        due.is(x.villages("00:-1"), -23);
        due.is(x.villages("00:+1"), -23);
        due.is(x.villages("00:x"), -23);
        due.is(x.villages("00:1x"), -24);
        due.is(x.villages("00:100x"), -23);
        due.is(x.of(0, 1), 99);
    }

    private static void villagesBlanks() {
        due.says("(blanks do not count, but end a number)");
        Run x = new Run();
        due.is(x.villages(" 1 2 : 3 4 "), -29);
        due.is(x.villages(" 1 2 : 34 "), 1);
        due.is(x.of(0, 0), 9);
        due.is(x.of(0, 1), 34);
        due.is(x.villages("12:3 ,  45:6"), 2);
        due.is(x.of(1, 0), 33);
        due.is(x.villages("12:3 4,45:6"), -25);
        due.is(x.villages("12:1 0 0"), -25);
        due.is(x.villages("12:0 5"), -23);
        due.is(x.villages("12: 0"), -24);
        due.is(x.villages("12:   100"), -26);
        due.is(x.villages("12:3  x"), -26);
        due.is(x.villages("  8"), -22);
        due.is(x.villages("1  8"), -23);
        due.is(x.villages("12:99 "), 1);
        due.is(x.of(0, 1), 99);
    }

    private static void villagesEnds() {
        due.says("(the end: how many bytes there are)");
        Run x = new Run();
        due.is(x.villages(), -20);
        due.is(x.villages("  "), -22);
        due.is(x.villages("1"), -21);
        due.is(x.villages("12"), -22);
        due.is(x.villages("12 "), -23);
        due.is(x.villages("12:"), -23);
        due.is(x.villages("12:   "), -26);
        due.is(x.villages("12:3,"), -25);
        due.is(x.villages("12:3, "), -26);
        due.is(x.villages("12:3,4"), -26);
        due.is(x.villages("12:3,45"), -27);
        due.is(x.villages("12:3,45:"), -28);
        due.is(x.villages(" ".repeat(140)), -160);
        due.is(x.villages("12:3" + " ".repeat(136)), 1);
        due.is(x.villages(" ".repeat(136) + "12:3"), 1);
        due.is(x.villages(" ".repeat(137) + "12:"), -160);
        due.is(x.villages(" ".repeat(135) + "12:0,"), -158);
    }

    private static void villagesStay() {
        due.says("A FAULT (those told stay)");
        Run x = new Run();
        x.villages("12:3,45:6");
        x.cheapest(3);
        String[] texts = {"00:1,00:1,00:1x", "00:1,", "00:100", "x", "", "00:1,00:1,00:1,00:1,00:1,00:1,00:1"};
        int[] faults = {-34, -25, -23, -20, -20, -49};
        for (int i = 0; i < texts.length; i++) {
            due.is(x.villages(texts[i]), faults[i]);
            due.is(x.count(0), 2);
            due.is(x.of(0, 0), 9);
            due.is(x.of(0, 1), 3);
            due.is(x.of(1, 0), 33);
            due.is(x.of(1, 1), 6);
            due.is(x.of(2, 0), BAD);
            due.is(x.cheapest(3), 13);
            due.is(x.cheapest(4), BAD);
        }
    }

    /** Every sign that may be typed, wherever another could stand. */
    private static void everySign() {
        due.says("the place of the first byte that can't stand there");
        for (char sign = 33; sign <= 126; sign++) {
            Run x = new Run();
            boolean digit = sign >= '0' && sign <= '9';
            boolean cell = digit && sign <= '6';
            due.is(x.delta("" + sign), digit ? 1 : -20);
            due.is(x.delta("3" + sign), digit ? 2 : "mrcbs".indexOf(sign) >= 0 ? 1 : sign == '/' ? -22 : -21);
            due.is(x.delta("3s" + sign), digit ? 2 : sign == '/' ? -23 : -22);
            due.is(x.delta("3/" + sign), digit ? 2 : -22);
            due.is(x.delta("3333333" + sign), "mrcbs".indexOf(sign) >= 0 ? 7 : sign == '/' ? -28 : -27);
            due.is(x.villages("" + sign), cell ? -21 : -20);
            due.is(x.villages("1" + sign), cell ? -22 : -21);
            due.is(x.villages("11" + sign), sign == ':' ? -23 : -22);
            due.is(x.villages("11:" + sign), digit && sign != '0' ? 1 : -23);
            due.is(x.villages("11:3" + sign), digit ? 1 : sign == ',' ? -25 : -24);
            due.is(x.villages("11:33" + sign), digit ? -23 : sign == ',' ? -26 : -25);
            due.is(x.villages("11:3 " + sign), sign == ',' ? -26 : -25);
        }
    }
}
