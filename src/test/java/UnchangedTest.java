import java.util.ArrayList;
import java.util.List;

/**
 * "What is refused changes nothing, but as told." Each refusal of each call, on an object that has something of all:
 * all that can be asked for behind it is as on a like object that was not called so.
 */
public final class UnchangedTest {
    private static final Due due = new Due();
    private static final int BAD = -1, NOT = -2, FULL = -3, NONE = -4, NULL = -11, CAST = -12, INDEX = -13, SIZE = -14;
    private static final int MIN = Integer.MIN_VALUE, MAX = Integer.MAX_VALUE;
    private static final int RICH = 0, POOR = 1, SETUPS = 2;
    private static final int GROUND = 0, REST = 1, SHEETS = 2, TAPE = 3, KEPT_GROUND = 4, KEPT_REST = 5, VIEWS = 6;

    private static final List<List<Long>> asItWas = new ArrayList<>();

    public static void main(String[] args) {
        for (int setup = 0; setup < SETUPS; setup++) {
            for (int view = 0; view < VIEWS; view++) {
                asItWas.add(seen(setUp(setup), view));
            }
        }
        due.says("What is refused changes nothing");
        refusedOfTheDelta();
        refusedOfVillages();
        refusedOfTheRoad();
        refusedOfWeeks();
        refusedOfSheets();
        refusedForLack();
        due.says("but as told: FAULTS empty THE TAPE");
        faults();
        due.says("what tells only");
        tellsOnly();
        seesChanges();
        due.end("UnchangedTest");
    }

    private static Run setUp(int setup) {
        return setup == RICH ? rich() : poor();
    }

    /** Full of all: the tape, villages, the road; sheets of all lanes, but one missing; an image of another state. */
    private static Run rich() {
        Run x = new Run();
        x.delta("0s1m2rb3c/4b5/6 7s/8/9c9mb");
        x.pile(9, 3, 4).pile(17, 2, 9).make(48, 1, 1);
        x.level(9);
        x.villages("12:34,56:7,00:1");
        x.ends(3, 44);
        x.steps(30, 31, 32);
        x.weight(0, 2);
        x.weight(12, 3);
        x.seed(77);
        x.image();
        x.make(20, 4, 1);
        x.make(21, 3, 1);
        x.make(22, 1, 6);
        x.level(11);
        x.villages("33:9,12:34,56:7,00:1,60:50,06:99");
        x.ends(0, 48);
        x.lay(0);
        x.pacing(48, 41, 60);
        x.weight(40, 9);
        x.seed(123456);
        fillSheets(x);
        x.typed("1m2b3s".repeat(2) + "/" + "4".repeat(7) + " ".repeat(118) + "/5");
        return x;
    }

    /** No weights, no image; short of villages, of road, of text. */
    private static Run poor() {
        Run x = new Run();
        x.delta("0s1m2rb3c/4b5");
        x.pile(9, 3, 4);
        x.level(9);
        x.villages("12:34,56:7");
        x.ends(3, 44);
        x.steps(30, 31, 32);
        x.seed(77);
        fillSheets(x);
        x.typed("12/3");
        return x;
    }

    private static void fillSheets(Run x) {
        for (int lane = 0; lane < 3; lane++) {
            x.sheet(lane, lane, 8 + lane);
            x.items(lane, lane, 1, 120, -1, 120, 120, 0, 0, 120);
        }
    }

    private static List<Long> seen(Run x, int view) {
        List<Long> all = new ArrayList<>();
        if (view >= KEPT_GROUND) {
            all.add((long) x.restore());
        }
        switch (view) {
            case GROUND:
            case KEPT_GROUND:
                seeGround(x, all);
                break;
            case REST:
            case KEPT_REST:
                seeRest(x, all);
                break;
            case SHEETS:
                seeSheets(x, all);
                break;
            default:
                all.add((long) x.type(' ', 1));
                all.add((long) x.delta());
                seeGround(x, all);
                break;
        }
        return all;
    }

    private static void seeGround(Run x, List<Long> all) {
        for (int cell = 0; cell < 49; cell++) {
            for (int what = 0; what < 5; what++) {
                all.add((long) x.told(cell, what));
            }
        }
        for (int what = 0; what < 7; what++) {
            all.add((long) x.count(what));
        }
    }

    private static void seeRest(Run x, List<Long> all) {
        for (int i = 0; i < 6; i++) {
            all.add((long) x.of(i, 0));
            all.add((long) x.of(i, 1));
        }
        for (int i = 0; i < 61; i++) {
            all.add((long) x.at(i));
        }
        for (int cell = 0; cell < 49; cell++) {
            all.add((long) x.told(cell, 6));
        }
        all.add((long) x.cheapest(1));
        all.add((long) x.cheapest(3));
        all.add((long) x.vote());
        for (int level = 0; level <= 40; level++) {
            all.add((long) x.weight(level, 0));
        }
        all.add((long) x.ends(0, 0));
        all.add((long) x.seed(0));
    }

    private static void seeSheets(Run x, List<Long> all) {
        for (int sheet = 0; sheet < 4; sheet++) {
            for (int lane = 0; lane < 3; lane++) {
                all.add((long) x.item(sheet, lane, -1, 0));
                for (int i = 0; i < 12; i++) {
                    all.add((long) x.leaves(1, sheet, lane, i));
                }
            }
            all.add((long) x.drop(sheet));
        }
    }

    private static void nothing(int setup, long answer, String name, long... given) {
        for (int view = 0; view < VIEWS; view++) {
            Run x = setUp(setup);
            due.is(x.call(name, given), answer);
            String call = Run.last();
            same(call, setup, view, seen(x, view));
        }
    }

    private static void same(String call, int setup, int view, List<Long> now) {
        due.is("changed by " + call + ", view " + view, now.equals(asItWas.get(VIEWS * setup + view)) ? 0 : 1, 0);
    }

    private static void refusedOfTheDelta() {
        long[] noCells = {-1, 49, MIN, MAX};
        for (long cell : noCells) {
            nothing(RICH, BAD, "make", cell, 0, 1);
            nothing(RICH, BAD, "told", cell, 0);
        }
        long[] nothings = {-1, 5, MAX};
        for (long what : nothings) {
            nothing(RICH, BAD, "make", 48, what, 1);
        }
        long[] most = {20, 9, 3, 1, 1};
        for (int what = 0; what < 5; what++) {
            nothing(RICH, BAD, "make", 3, what, -1);
            nothing(RICH, BAD, "make", 3, what, most[what] + 1);
        }
        nothing(RICH, BAD, "told", 0, 8);
        nothing(RICH, BAD, "level", -1);
        nothing(RICH, BAD, "level", 41);
        nothing(RICH, FULL, "type", '3', 1);
        nothing(RICH, FULL, "type", Run.bytes("33333333"), 8);
        nothing(POOR, BAD, "type", '3', 0);
        nothing(POOR, BAD, "type", '3', 9);
        nothing(POOR, BAD, "type", '3' << 8 | 31, 2);
        nothing(POOR, BAD, "type", 127 << 8 | '3', 2);
        nothing(POOR, BAD, "count", 7);
        nothing(POOR, BAD, "count", -1);
    }

    private static void refusedOfVillages() {
        nothing(RICH, FULL, "village", 5, 5);
        nothing(RICH, BAD, "village", 49, 5);
        nothing(POOR, BAD, "village", -1, 5);
        nothing(POOR, BAD, "village", 49, 5);
        nothing(POOR, BAD, "village", 5, 0);
        nothing(POOR, BAD, "village", 5, 100);
        nothing(POOR, BAD, "of", 2, 0);
        nothing(POOR, BAD, "of", 0, 2);
        nothing(RICH, BAD, "ends", -1, 5);
        nothing(RICH, BAD, "ends", 49, 5);
        nothing(RICH, BAD, "ends", 5, -1);
        nothing(RICH, BAD, "ends", 5, 49);
        long[] noSets = {-1, 64, MIN, MAX};
        for (long set : noSets) {
            nothing(RICH, BAD, "cheapest", set);
            nothing(RICH, -100001, "worth", set);
            nothing(RICH, BAD, "lay", set);
            nothing(RICH, BAD, "share", set, 0, 0);
        }
        nothing(POOR, BAD, "lay", 4);
        nothing(POOR, BAD, "share", 1, 1, 0);
        nothing(POOR, BAD, "share", 3, 2, 0);
        nothing(POOR, BAD, "share", 3, 0, 2);
    }

    private static void refusedOfTheRoad() {
        nothing(RICH, FULL, "step", 48);
        nothing(RICH, NOT, "step", 0);
        nothing(RICH, BAD, "step", 49);
        nothing(POOR, NOT, "step", 32);
        nothing(POOR, NOT, "step", 30);
        nothing(POOR, BAD, "step", -1);
        nothing(RICH, BAD, "back", 0);
        nothing(RICH, BAD, "back", -1);
        nothing(RICH, BAD, "back", 61);
        nothing(POOR, NOT, "back", 4);
        nothing(POOR, NOT, "back", 60);
        nothing(RICH, BAD, "at", 60);
        nothing(POOR, BAD, "at", 3);
        nothing(RICH, BAD, "road", 4);
        nothing(RICH, BAD, "sinks", 0, 1);
        nothing(RICH, BAD, "sinks", 1000, 1);
        nothing(RICH, BAD, "sinks", 1, 0);
        nothing(RICH, BAD, "sinks", 1, 10);
        nothing(POOR, NONE, "sinks", 1, 1);
        nothing(RICH, BAD, "toll", 0);
        nothing(RICH, BAD, "toll", 10);
    }

    private static void refusedOfWeeks() {
        nothing(RICH, BAD, "weight", -1, 5);
        nothing(RICH, BAD, "weight", 41, 5);
        nothing(RICH, BAD, "weight", 12, -1);
        nothing(RICH, BAD, "weight", 12, 10);
        nothing(RICH, BAD, "odds", 0, 0);
        nothing(RICH, BAD, "odds", 7, 0);
        nothing(RICH, BAD, "odds", 6, 2);
        nothing(RICH, BAD, "weeks", 0);
        nothing(RICH, BAD, "weeks", 61);
        nothing(RICH, BAD, "seed", -1);
        nothing(RICH, BAD, "seed", MIN);
        nothing(POOR, NOT, "odds", 1, 0);
        nothing(POOR, NOT, "odds", 6, 1);
        nothing(POOR, NOT, "weeks", 1);
        nothing(POOR, NOT, "weeks", 60);
    }

    private static void refusedOfSheets() {
        nothing(RICH, BAD, "sheet", -1, 0, 1);
        nothing(RICH, BAD, "sheet", 4, 0, 1);
        nothing(RICH, BAD, "sheet", 0, 3, 1);
        nothing(RICH, BAD, "sheet", 0, -1, 1);
        nothing(RICH, BAD, "sheet", 0, 0, 25);
        nothing(RICH, SIZE, "sheet", 0, 0, -1);
        nothing(RICH, SIZE, "sheet", 3, 2, MIN);
        nothing(RICH, BAD, "drop", 4);
        nothing(RICH, BAD, "drop", -1);
        nothing(RICH, NULL, "drop", 3);
        long[] values = {0, 120};
        for (long v : values) {
            nothing(RICH, BAD, "item", 4, 0, 0, v);
            nothing(RICH, BAD, "item", 0, 3, 0, v);
            nothing(RICH, NULL, "item", 3, 0, 0, v);
            nothing(RICH, CAST, "item", 0, 1, 0, v);
            nothing(RICH, CAST, "item", 2, 0, 3, v);
            nothing(RICH, INDEX, "item", 0, 0, 8, v);
            nothing(RICH, INDEX, "item", 1, 1, -1, v);
            nothing(RICH, INDEX, "item", 2, 2, 10, v);
        }
        nothing(RICH, BAD, "film", 7, 0, 0, 0);
        nothing(RICH, BAD, "film", 0, 4, 0, 0);
        nothing(RICH, BAD, "film", 0, 0, 3, 0);
        nothing(RICH, NULL, "film", 0, 3, 0, 0);
        nothing(RICH, CAST, "film", 0, 0, 1, 0);
        due.says("What is refused changes nothing: what would fit comes as little");
        nothing(RICH, INDEX, "film", 0, 0, 0, 2);
        nothing(RICH, INDEX, "film", 0, 0, 0, -1);
        nothing(RICH, INDEX, "film", 0, 2, 2, 4);
        nothing(RICH, BAD, "leaves", 0, 0, 0, 0);
        nothing(RICH, BAD, "leaves", 64, 0, 0, 0);
        nothing(RICH, NULL, "leaves", 1, 3, 0, 0);
        nothing(RICH, CAST, "leaves", 1, 0, 1, 0);
        nothing(RICH, INDEX, "leaves", 63, 0, 0, 3);
        nothing(RICH, NONE, "leaves", 1, 0, 0, 0);
    }

    private static void refusedForLack() {
        due.says("What is refused changes nothing: restore: NONE");
        nothing(POOR, NONE, "restore");
        due.says("What is refused changes nothing: goes: NONE");
        for (int view = 0; view < VIEWS; view++) {
            Run x = poor();
            x.back(3);
            due.is(x.goes(), NONE);
            x.steps(30, 31, 32);
            same("goes()", POOR, view, seen(x, view));
        }
    }

    private static void faults() {
        for (int view = 0; view < VIEWS; view++) {
            if (view != TAPE) {
                Run x = rich();
                due.is(x.villages(), -21);
                same("villages()", RICH, view, seen(x, view));
                Run y = poor();
                y.typed("/");
                due.is(y.delta(), -25);
                same("delta()", POOR, view, seen(y, view));
                Run z = poor();
                due.is(z.villages(), -22);
                due.is(z.delta(), -20);
                due.is(z.villages(), -20);
                same("delta() and villages()", POOR, view, seen(z, view));
            }
        }
        Run x = rich();
        due.is(x.villages(), -21);
        due.is(x.type(' ', 1), 1);
        Run y = poor();
        y.typed("/");
        due.is(y.delta(), -25);
        due.is(y.type(' ', 1), 1);
    }

    private static void tellsOnly() {
        nothing(RICH, 1, "told", 8, 5);
        nothing(RICH, 60, "count", 1);
        nothing(RICH, 24, "of", 0, 0);
        nothing(RICH, asked("cheapest", 63), "cheapest", 63);
        nothing(RICH, asked("worth", 63), "worth", 63);
        nothing(RICH, asked("vote"), "vote");
        nothing(RICH, asked("share", 63, 4, 0), "share", 63, 4, 0);
        nothing(RICH, 0, "at", 0);
        nothing(RICH, asked("road", 0), "road", 0);
        nothing(RICH, asked("road", 3), "road", 3);
        nothing(RICH, asked("sinks", 30, 1), "sinks", 30, 1);
        nothing(RICH, asked("toll", 9), "toll", 9);
        nothing(RICH, asked("goes"), "goes");
        nothing(RICH, asked("odds", 6, 0), "odds", 6, 0);
        nothing(RICH, 1, "leaves", 1, 1, 1, 1);
    }

    private static long asked(String name, long... given) {
        return rich().call(name, given);
    }

    /** The views themselves: each tells of what it is there for. */
    private static void seesChanges() {
        due.says("(the views of this test)");
        Object[][] changes = {{GROUND, "flood"}, {GROUND, "leave"}, {GROUND, "level", 12L}, {REST, "seed", 5L}, {REST, "weight", 3L, 1L},
            {REST, "ends", 3L, 4L}, {REST, "back", 1L}, {REST, "lay", 1L}, {SHEETS, "item", 2L, 2L, 0L, 99L},
            {SHEETS, "item", 0L, 0L, 1L, 0L}, {SHEETS, "drop", 1L}, {SHEETS, "sheet", 1L, 1L, 10L}, {SHEETS, "film", 0L, 2L, 2L, 3L},
            {TAPE, "delta"}, {KEPT_GROUND, "image"}, {KEPT_REST, "image"}};
        for (Object[] change : changes) {
            long[] given = new long[change.length - 2];
            for (int i = 0; i < given.length; i++) {
                given[i] = (Long) change[i + 2];
            }
            int view = (Integer) change[0];
            Run x = rich();
            x.call((String) change[1], given);
            String call = Run.last();
            due.is("seen by view " + view + ": " + call, seen(x, view).equals(asItWas.get(VIEWS * RICH + view)) ? 0 : 1, 1);
        }
    }
}
