import java.lang.reflect.InvocationTargetException;
import java.lang.reflect.Method;
import java.lang.reflect.Modifier;
import java.util.Arrays;
import java.util.Comparator;
import java.util.function.Consumer;
import java.util.function.ToLongFunction;

/**
 * What the tests of boundary cases share. A test is a static method named by its promise and its case (p02_widthOfOneIsBad);
 * those of a class are found by their names, so none can be forgotten.
 */
final class Edges {
    static final int NONE = -1, BAD = -2, NO = -3, FULL = -4;
    static final int[] FAR_OUT = {Integer.MIN_VALUE, Integer.MIN_VALUE + 1, -65536, 65536, Integer.MAX_VALUE - 1, Integer.MAX_VALUE};
    private static final int MOST_BACKS = 20;
    private static String test = "";
    private static int row;
    private static int wrong;

    private Edges() {
    }

    static void runAll(Class<?> tests) {
        Method[] methods = tests.getDeclaredMethods();
        Arrays.sort(methods, Comparator.comparing(Method::getName));
        int ran = 0;
        for (Method m : methods) {
            if (Modifier.isStatic(m.getModifiers()) && m.getName().matches("p\\d\\d_\\w+")) {
                runOne(m);
                ran++;
            }
        }
        System.out.println(wrong == 0 ? "all " + ran + " cases hold" : wrong + " answers are not as due");
        if (wrong != 0 || ran == 0) {
            System.exit(1);
        }
    }

    private static void runOne(Method m) {
        test = m.getName();
        row = 0;
        try {
            m.invoke(null);
        } catch (InvocationTargetException e) {
            fail("ended with " + e.getCause());
        } catch (IllegalAccessException e) {
            fail("could not be run: " + e);
        }
    }

    private static void fail(String what) {
        wrong++;
        System.out.println(test + ", row " + row + ": " + what);
    }

    static void due(long got, long want) {
        row++;
        if (got != want) {
            fail("answered " + got + ", due is " + want);
        }
    }

    static void due(String got, String want) {
        row++;
        if (!got.equals(want)) {
            fail("stands at " + got + ", due is " + want);
        }
    }

    static StrokeCuts sized(int w, int h) {
        StrokeCuts c = new StrokeCuts();
        c.picture(w, h);
        return c;
    }

    /** A picture of the rows of figures that are told. */
    static StrokeCuts shaded(String... rows) {
        StrokeCuts c = sized(rows[0].length(), rows.length);
        for (int y = 0; y < rows.length; y++) {
            for (int x = 0; x < rows[y].length(); x++) {
                if (rows[y].charAt(x) != '0') {
                    c.shade(x, y, rows[y].charAt(x) - '0');
                }
            }
        }
        return c;
    }

    /** f FIGURE, g GROUND, . no mark. */
    static void marks(StrokeCuts c, String... rows) {
        for (int y = 0; y < rows.length; y++) {
            for (int x = 0; x < rows[y].length(); x++) {
                c.mark(x, y, ".fg".indexOf(rows[y].charAt(x)));
            }
        }
    }

    /** A picture all of whose dots are marked, so that those with an f are the one cut-out there is. */
    static StrokeCuts figure(String... rows) {
        StrokeCuts c = sized(rows[0].length(), rows.length);
        for (int y = 0; y < rows.length; y++) {
            for (int x = 0; x < rows[y].length(); x++) {
                c.mark(x, y, rows[y].charAt(x) == 'f' ? 1 : 2);
            }
        }
        return c;
    }

    static void shadesDue(StrokeCuts c, String... rows) {
        due(dotRows(c, 0, "0123456789"), String.join("/", rows));
    }

    static void marksDue(StrokeCuts c, String... rows) {
        due(dotRows(c, 1, ".fg"), String.join("/", rows));
    }

    private static String dotRows(StrokeCuts c, int what, String signs) {
        StringBuilder text = new StringBuilder();
        // asked once: an object answers 512 calls, and a test must stay below
        int w = c.told(3), h = c.told(4);
        for (int y = 0; y < h; y++) {
            text.append(y > 0 ? "/" : "");
            for (int x = 0; x < w; x++) {
                int v = c.dot(x, y, what);
                text.append(v >= 0 && v < signs.length() ? signs.charAt(v) : '?');
            }
        }
        return text.toString();
    }

    static void typeAll(StrokeCuts c, String text) {
        for (int i = 0; i < text.length(); i++) {
            c.type(text.charAt(i));
        }
    }

    /** An object that stands elsewhere than a new one in all that can stand elsewhere; 4 times 3 dots, 8 states. */
    static StrokeCuts busy() {
        StrokeCuts c = sized(4, 3);
        c.draws(123, 10);
        int[] values = {20, 3, 2, 1, 8, 8};
        for (int what = 0; what < values.length; what++) {
            c.sets(what, values[what]);
        }
        c.stroke(1, 0, 0, 1, 1);
        c.mark(3, 2, 2);
        typeAll(c, "g20;");
        c.type(-1);
        c.back();
        c.mark(3, 1, 2);
        return c;
    }

    /** All that can be seen of an object but how often it refused and its states. */
    private static String view(StrokeCuts c) {
        StringBuilder text = new StringBuilder();
        for (int what = 3; what <= 11; what++) {
            text.append(c.told(what)).append(' ');
        }
        text.append(dotRows(c, 0, "0123456789")).append(' ').append(dotRows(c, 1, ".fg")).append(' ');
        return text.append(c.cost()).append(' ').append(c.side(0)).append(' ').append(c.side(1)).toString();
    }

    /** All that can be seen of an object, its text by doing it, its states by going back to all of them; the object is used up. */
    private static String viewAll(StrokeCuts c) {
        StringBuilder text = new StringBuilder(view(c)).append(" states ").append(c.told(12)).append(" text ").append(c.does());
        text.append(' ').append(dotRows(c, 1, ".fg"));
        for (int i = 0; i < MOST_BACKS && c.told(12) > 0; i++) {
            c.back();
            text.append(" | ").append(view(c));
        }
        return text.toString();
    }

    /** The call is refused so, counts so, and all else is as on a twin that did not get it. */
    static void refused(int why, Consumer<StrokeCuts> ahead, ToLongFunction<StrokeCuts> call) {
        StrokeCuts c = busy(), twin = busy();
        ahead.accept(c);
        ahead.accept(twin);
        due(call.applyAsLong(c), why);
        for (int what = 0; what < 3; what++) {
            due(c.told(what), twin.told(what) + (what == BAD - why ? 1 : 0));
        }
        due(viewAll(c), viewAll(twin));
    }

    static void bad(ToLongFunction<StrokeCuts> call) {
        refused(BAD, c -> { }, call);
    }

    /** The call answers so, and all is as on a twin that did not get it. */
    static void changesNothing(ToLongFunction<StrokeCuts> call, long want) {
        StrokeCuts c = busy(), twin = busy();
        due(call.applyAsLong(c), want);
        for (int what = 0; what < 3; what++) {
            due(c.told(what), twin.told(what));
        }
        due(viewAll(c), viewAll(twin));
    }

    /** All is as on a twin that did not get the call, whatever it answers. */
    static void onlyAsks(Consumer<StrokeCuts> call) {
        changesNothing(c -> {
            call.accept(c);
            return 0;
        }, 0);
    }

    /** The call leaves one state, and going back leads to where a twin stands that did not get it. */
    static void leavesState(Consumer<StrokeCuts> call) {
        StrokeCuts c = busy(), twin = busy();
        c.back();
        twin.back();
        int states = twin.told(12);
        call.accept(c);
        due(c.told(12), states + 1);
        due(c.back(), states);
        for (int what = 0; what < 3; what++) {
            due(c.told(what), twin.told(what));
        }
        due(viewAll(c), viewAll(twin));
    }
}
