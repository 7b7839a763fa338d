import java.lang.reflect.Method;
import java.util.ArrayList;
import java.util.Arrays;
import java.util.List;

/**
 * Each call with every mixture of numbers at the edges of what they may be, beside what the document told once more
 * (Told) answers; behind each call the counts of refusals, too.
 */
public final class GridTest {
    private static final int[] HOUSES = {-1, 0, 1, 2, 3, 4, Integer.MAX_VALUE};
    private static final int[] LEFT = {-1, 0, 1, 2, 3, 4, Integer.MIN_VALUE};
    private static final int[] STATES = {-1, 0, 1, 4, 5, 6, 24, 25, 26, 124, 125};
    private static final int[] SHELVES = {-1, 0, 1, 2, 3, 4, 5, 6, 7, 8, Integer.MIN_VALUE};
    private static final int[] SORTS = {-1, 0, 1, 2, 3};
    private static final int[] WHAT = {-1, 0, 1, 2, 3, 4, 5, 6, Integer.MAX_VALUE};
    private static final int[] VALUES = {-1, 0, 1, 3, 4, 5, 9, 10, 40, 41, 99, 100};
    private static final int[] PLACES = {-1, 0, 1, 2, 3, Integer.MAX_VALUE};
    private static final int[] LENGTHS = {-1, 0, 1, 124, 125, 126};
    private static final int[] STATUS = {-1, 0, 1, 2, 3, 4, 11, 12, 13, 14, 15, 16, 17};
    /** A call changes things, so more than these aren't made on one object. */
    private static final int CALLS = 300;

    private static SendTheBox x;
    private static Told y;
    private static int calls;

    public static void main(String[] args) throws Exception {
        grid("row", SHELVES, WHAT, LENGTHS);
        grid("set", SHELVES, PLACES, new int[] {0, 1, 128, -1});
        grid("copy", SHELVES, SHELVES, PLACES, PLACES, PLACES);
        grid("element", SHELVES, PLACES);
        grid("holds", new int[][] {SHELVES});
        grid("rule", SHELVES, WHAT, new int[] {-1, 0, 1, 6, 7, 8, 10, 11, 99, 100, 996, 997, 1001});
        grid("says", SHELVES, WHAT);
        grid("feed", new int[] {-1, 0, 'a', '1' << 24 | ';'}, WHAT);
        grid("wipe");
        grid("house");
        grid("houseOf", HOUSES, WHAT);
        grid("sortOf", HOUSES, SORTS, WHAT);
        grid("alter", HOUSES, WHAT, VALUES);
        grid("change", HOUSES, SORTS, WHAT, VALUES);
        grid("of", STATES, SORTS);
        grid("space", HOUSES, STATES);
        grid("scale", HOUSES, LEFT);
        grid("cost", HOUSES, LEFT, STATES);
        grid("best", HOUSES, LEFT, STATES);
        grid("fill", HOUSES, STATES);
        grid("load", HOUSES, LEFT, STATES, SHELVES);
        grid("mean", HOUSES, LEFT, STATES, SHELVES);
        grid("lose", HOUSES, LEFT, STATES, SHELVES);
        grid("boy", new int[][] {HOUSES});
        grid("waits", HOUSES, LEFT, STATES);
        grid("once", HOUSES, LEFT, STATES);
        grid("dear", HOUSES, LEFT, STATES, SORTS);
        grid("chance", HOUSES, LEFT, STATES, SHELVES);
        grid("reach", HOUSES, LEFT, SHELVES);
        grid("held", HOUSES, SORTS, SHELVES);
        grid("boxes", HOUSES, SHELVES);
        grid("plain", new int[][] {HOUSES});
        grid("every", new int[][] {HOUSES});
        grid("promise", HOUSES, LEFT);
        grid("shape", HOUSES, LEFT);
        grid("odd", HOUSES, LEFT);
        grid("judge", HOUSES, STATES, SHELVES);
        grid("join", HOUSES, HOUSES);
        grid("saved", HOUSES, HOUSES);
        grid("seed", new int[][] {VALUES});
        grid("begin", HOUSES, SHELVES);
        grid("step", new int[][] {LENGTHS});
        grid("step", new int[][] {WHAT});
        grid("week", new int[][] {WHAT});
        grid("weeks", HOUSES, SHELVES, new int[] {-1, 0, 1, 50, 51});
        grid("image");
        grid("back");
        grid("status", new int[][] {STATUS});
        Check.finish();
    }

    /** Two of one sort, one of two, one of three: one to three days. */
    private static void begin() throws Exception {
        x = new SendTheBox();
        y = new Told();
        calls = 0;
        house("days 3;box 9 room 7;full 1;sort room 2 comes 2 hold 3 refuse 4 left 9;sort room 3 comes 1 hold 5");
        house("days 1;box 2 room 3;sort room 1 comes 3 hold 1 left 3");
        house("days 2;box 6 room 5;sort room 2 comes 3 hold 1 left 7;sort room 1 comes 1 hold 1;sort room 4 comes 2 hold 0 left 9");
        house("full 2;sort room 4 comes 3 hold 2 left 6");
        int[][] rows = {{0, 0, 3}, {1, 0, 2}, {2, 4, 125}};
        for (int[] r : rows) {
            call("row", r[0], r[1], r[2]);
            call("set", r[0], 1, 1L);
        }
        int[][] rules = {{3, 1, 5}, {4, 3, 62}, {5, 5, 0}, {6, 4, 0}};
        for (int[] r : rules) {
            call("rule", r[0], r[1], r[2]);
        }
        call("begin", 0, 6);
        call("step", 1);
        call("image");
        call("step", 1);
        for (char c : "days 2;sort".toCharArray()) {
            call("feed", (int) c, 1);
        }
    }

    private static void house(String text) throws Exception {
        for (char c : text.toCharArray()) {
            y.feed(c, 1);
        }
        Check.feedText(x, text);
        call("house");
    }

    private static void grid(String name, int[]... edges) throws Exception {
        begin();
        walk(name, edges, 0, new int[edges.length]);
    }

    private static void walk(String name, int[][] edges, int from, int[] with) throws Exception {
        if (from < edges.length) {
            for (int v : edges[from]) {
                with[from] = v;
                walk(name, edges, from + 1, with);
            }
            return;
        }
        if (calls + 6 > CALLS) {
            begin();
        }
        List<Object> all = new ArrayList<>();
        for (int i = 0; i < with.length; i++) {
            all.add(name.equals("set") && i == 2 ? (Object) (long) with[i] : (Object) with[i]);
        }
        call(name, all.toArray());
        for (int what = 12; what <= 16; what++) {
            call("status", what);
        }
    }

    private static void call(String name, Object... with) throws Exception {
        long want = answer(Told.class, y, name, with);
        Check.due(name + Arrays.toString(with), answer(SendTheBox.class, x, name, with), want);
        calls++;
    }

    private static long answer(Class<?> type, Object on, String name, Object[] with) throws Exception {
        Class<?>[] types = new Class<?>[with.length];
        for (int i = 0; i < with.length; i++) {
            types[i] = with[i] instanceof Long ? long.class : int.class;
        }
        Method m = type.getDeclaredMethod(name, types);
        return ((Number) m.invoke(on, with)).longValue();
    }
}
