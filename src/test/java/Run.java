import java.lang.reflect.InvocationTargetException;
import java.lang.reflect.Method;
import java.util.Arrays;

/** One object and the calls on it: never more of them than the document lets an object have. */
final class Run {
    static final int MOST_CALLS = 512;

    private static String lastName = "";
    private static long[] lastGiven = {};

    private final DeltaRoad road = new DeltaRoad();
    private int calls = 0;

    /** The last call of all, as it would be written. */
    static String last() {
        return lastName + Arrays.toString(lastGiven).replace('[', '(').replace(']', ')');
    }

    int left() {
        return MOST_CALLS - calls;
    }

    private DeltaRoad on(String name, long... given) {
        calls++;
        lastName = name;
        lastGiven = given;
        if (calls > MOST_CALLS) {
            throw new IllegalStateException("a call too many: " + last());
        }
        return road;
    }

    int make(int cell, int what, int v) {
        return on("make", cell, what, v).make(cell, what, v);
    }

    int told(int cell, int what) {
        return on("told", cell, what).told(cell, what);
    }

    int level(int v) {
        return on("level", v).level(v);
    }

    int flood() {
        return on("flood").flood();
    }

    int type(long w, int n) {
        return on("type", w, n).type(w, n);
    }

    int delta() {
        return on("delta").delta();
    }

    int villages() {
        return on("villages").villages();
    }

    int count(int what) {
        return on("count", what).count(what);
    }

    int village(int cell, int loads) {
        return on("village", cell, loads).village(cell, loads);
    }

    int of(int village, int what) {
        return on("of", village, what).of(village, what);
    }

    int ends(int first, int second) {
        return on("ends", first, second).ends(first, second);
    }

    int cheapest(int set) {
        return on("cheapest", set).cheapest(set);
    }

    int worth(int set) {
        return on("worth", set).worth(set);
    }

    int vote() {
        return on("vote").vote();
    }

    int share(int set, int village, int part) {
        return on("share", set, village, part).share(set, village, part);
    }

    int lay(int set) {
        return on("lay", set).lay(set);
    }

    int step(int cell) {
        return on("step", cell).step(cell);
    }

    int back(int n) {
        return on("back", n).back(n);
    }

    int at(int i) {
        return on("at", i).at(i);
    }

    int road(int what) {
        return on("road", what).road(what);
    }

    int sinks(int weight, int axles) {
        return on("sinks", weight, axles).sinks(weight, axles);
    }

    int toll(int axles) {
        return on("toll", axles).toll(axles);
    }

    int goes() {
        return on("goes").goes();
    }

    int weight(int level, int v) {
        return on("weight", level, v).weight(level, v);
    }

    long odds(int n, int part) {
        return on("odds", n, part).odds(n, part);
    }

    int weeks(int n) {
        return on("weeks", n).weeks(n);
    }

    int seed(int v) {
        return on("seed", v).seed(v);
    }

    int leave() {
        return on("leave").leave();
    }

    int image() {
        return on("image").image();
    }

    int restore() {
        return on("restore").restore();
    }

    int leaves(int set, int sheet, int lane, int from) {
        return on("leaves", set, sheet, lane, from).leaves(set, sheet, lane, from);
    }

    int sheet(int sheet, int lane, int n) {
        return on("sheet", sheet, lane, n).sheet(sheet, lane, n);
    }

    int drop(int sheet) {
        return on("drop", sheet).drop(sheet);
    }

    int item(int sheet, int lane, int i, int v) {
        return on("item", sheet, lane, i, v).item(sheet, lane, i, v);
    }

    int film(int row, int sheet, int lane, int from) {
        return on("film", row, sheet, lane, from).film(row, sheet, lane, from);
    }

    /** The call of a name, for tables of calls. */
    long call(String name, long... given) {
        on(name, given);
        for (Method m : DeltaRoad.class.getMethods()) {
            if (m.getDeclaringClass() == DeltaRoad.class && m.getName().equals(name)) {
                return answerOf(m, given);
            }
        }
        throw new IllegalStateException("no such call: " + name);
    }

    private long answerOf(Method m, long[] given) {
        Object[] taken = new Object[given.length];
        for (int i = 0; i < given.length; i++) {
            if (m.getParameterTypes()[i] == long.class) {
                taken[i] = given[i];
            } else {
                taken[i] = (int) given[i];
            }
        }
        try {
            return ((Number) m.invoke(road, taken)).longValue();
        } catch (IllegalAccessException | InvocationTargetException e) {
            throw new IllegalStateException(last(), e);
        }
    }

    // ---- what tests often do

    static long bytes(String text) {
        long w = 0;
        for (int i = 0; i < text.length(); i++) {
            w = w << 8 | text.charAt(i);
        }
        return w;
    }

    Run typed(String text) {
        for (int i = 0; i < text.length(); i += 8) {
            String part = text.substring(i, Math.min(text.length(), i + 8));
            if (type(bytes(part), part.length()) < 0) {
                throw new IllegalStateException("not typed: " + text);
            }
        }
        return this;
    }

    int delta(String text) {
        return typed(text).delta();
    }

    int villages(String text) {
        return typed(text).villages();
    }

    /** Every cell of 2 times the digit, dry, without mud, bones, springs. */
    Run flat(int digit) {
        String row = String.valueOf(digit).repeat(7);
        delta(row + ("/" + row).repeat(6));
        return this;
    }

    /** A cell's height and mud. */
    Run pile(int cell, int height, int mud) {
        make(cell, 0, height);
        make(cell, 1, mud);
        return this;
    }

    Run spring(int cell) {
        make(cell, 4, 1);
        return this;
    }

    Run steps(int... cells) {
        for (int cell : cells) {
            step(cell);
        }
        return this;
    }

    /** Steps to and fro between the last two cells till the road has so many. */
    Run pacing(int first, int second, int cells) {
        for (int i = count(1); i < cells; i++) {
            step(i % 2 == 0 ? first : second);
        }
        return this;
    }

    Run items(int sheet, int lane, int... values) {
        for (int i = 0; i < values.length; i++) {
            item(sheet, lane, i, values[i]);
        }
        return this;
    }

    /**
     * An item can't be asked for, but a village leaves just while it is more than a road of one cell costs (1 .. 41).
     * The image is another one then.
     */
    int itemOr1(int sheet, int lane, int i) {
        image();
        delta("0s");
        villages("00:1");
        ends(0, 0);
        int least = 1;
        int most = 41;
        while (least < most) {
            int middle = (least + most) / 2;
            level(middle - 1);
            if (leaves(1, sheet, lane, i) == 1) {
                least = middle + 1;
            } else {
                most = middle;
            }
        }
        restore();
        return least;
    }
}
