/** Promises 1 to 8: a new object, rows and rules on shelves. */
public final class ShelvesTest {
    public static void main(String[] args) {
        newObject();
        rows();
        sets();
        keptBits();
        copies();
        elements();
        rulesMade();
        toldRows();
        says();
        Check.finish();
    }

    private static void newObject() {
        SendTheBox x = new SendTheBox();
        Check.due("NONE", SendTheBox.NONE, -1);
        Check.due("status(0)", x.status(0), 0);
        Check.due("status(1)", x.status(1), 0);
        Check.due("status(2)", x.status(2), 1);
        Check.due("status(3)", x.status(3), 0);
        for (int s = 0; s < 8; s++) {
            Check.due("holds(" + s + ")", x.holds(s), -1);
        }
        for (int what = 12; what <= 16; what++) {
            Check.due("status(" + what + ")", x.status(what), 0);
        }
        Check.due("houseOf(0, 0)", x.houseOf(0, 0), -2);
        Check.due("wipe()", x.wipe(), 0);
        Check.due("week(0)", x.week(0), -5);
        Check.due("back()", x.back(), -5);
    }

    private static void rows() {
        SendTheBox x = new SendTheBox();
        int[][] bad = {{-1, 0, 1}, {8, 0, 1}, {0, -1, 1}, {0, 5, 1}, {0, 0, -1}, {0, 0, 126},
            {0, 0, Integer.MIN_VALUE}, {Integer.MAX_VALUE, 0, 0}};
        for (int[] b : bad) {
            Check.due("row bad", x.row(b[0], b[1], b[2]), -2);
        }
        Check.due("status(12)", x.status(12), bad.length);
        Check.due("status(3)", x.status(3), 0);
        for (int sort = 0; sort <= 4; sort++) {
            Check.due("row", x.row(sort, sort, 125), 1);
            Check.due("holds", x.holds(sort), sort);
            Check.due("first", x.element(sort, 0), 0);
            Check.due("last", x.element(sort, 124), 0);
        }
        Check.due("row of 0", x.row(7, 3, 0), 1);
        Check.due("set in row of 0", x.set(7, 0, 1), -2);
        Check.due("status(3)", x.status(3), 6);
        x.row(6, 3, 1);
        Check.due("set in row of 1", x.set(6, 0, 5), 1);
        Check.due("element of row of 1", x.element(6, 0), 5);
        Check.due("set behind it", x.set(6, 1, 5), -2);
        x.set(0, 3, 9);
        Check.due("row again", x.row(0, 0, 4), 1);
        Check.due("a new row is empty", x.element(0, 3), 0);
    }

    private static void sets() {
        SendTheBox x = new SendTheBox();
        x.row(0, 2, 3);
        x.rule(1, 4, 0);
        Check.due("set", x.set(0, 2, 77), 1);
        Check.due("element", x.element(0, 2), 77);
        Check.due("bad shelf", x.set(-1, 0, 0), -2);
        Check.due("bad shelf", x.set(8, 0, 0), -2);
        Check.due("other ahead of bad i", x.set(1, -1, 0), -3);
        Check.due("nothing ahead of bad i", x.set(2, -1, 0), -4);
        Check.due("bad i", x.set(0, 3, 5), -2);
        Check.due("bad i", x.set(0, -1, 5), -2);
        Check.due("BAD", x.status(12), 4);
        Check.due("OTHER", x.status(13), 1);
        Check.due("NOTHING", x.status(14), 1);
    }

    private static void keptBits() {
        SendTheBox x = new SendTheBox();
        long v = 0x123456789ABCDEF0L;
        long[] want = {(byte) v, (short) v, (int) v, v, 1};
        for (int sort = 0; sort <= 4; sort++) {
            x.row(sort, sort, 2);
            x.set(sort, 1, v);
            Check.due("lowest bits of sort " + sort, x.element(sort, 1), want[sort]);
            x.set(sort, 1, 1L << 40);
            Check.due("high bit of sort " + sort, x.element(sort, 1), sort == 3 ? 1L << 40 : sort == 4 ? 1 : 0);
            x.set(sort, 1, -1);
            Check.due("-1 of sort " + sort, x.element(sort, 1), sort == 4 ? 1 : -1);
            x.set(sort, 1, 0);
            Check.due("0 of sort " + sort, x.element(sort, 1), 0);
        }
    }

    private static void copies() {
        SendTheBox x = new SendTheBox();
        x.row(0, 0, 5);
        x.row(1, 0, 3);
        x.row(2, 1, 5);
        x.rule(3, 4, 0);
        for (int i = 0; i < 5; i++) {
            x.set(0, i, i + 1);
        }
        Check.due("copy", x.copy(0, 1, 2, 0, 3), 3);
        Check.due("copied", x.element(1, 0) * 100 + x.element(1, 1) * 10 + x.element(1, 2), 345);
        Check.due("copy upon itself", x.copy(0, 0, 0, 1, 4), 4);
        long all = 0;
        for (int i = 0; i < 5; i++) {
            all = all * 10 + x.element(0, i);
        }
        Check.due("as they were", all, 11234);
        Check.due("copy of 0", x.copy(0, 1, 5, 3, 0), 0);
        Check.due("bad p ahead of other", x.copy(8, 3, 0, 0, 1), -2);
        Check.due("bad q ahead of other", x.copy(3, -1, 0, 0, 1), -2);
        Check.due("rule, nothing", x.copy(3, 7, 0, 0, 1), -3);
        Check.due("nothing, rule", x.copy(7, 3, 0, 0, 1), -3);
        Check.due("two sorts, bad n", x.copy(0, 2, 0, 0, 9), -3);
        Check.due("row, nothing, bad n", x.copy(0, 7, 0, 0, -1), -4);
        Check.due("nothing, row", x.copy(7, 0, 0, 0, 1), -4);
        int[][] bad = {{-1, 0, 1}, {0, -1, 1}, {0, 0, -1}, {3, 0, 3}, {0, 1, 3}, {6, 0, 0}, {0, 4, 0},
            {1, 0, Integer.MAX_VALUE}, {Integer.MAX_VALUE, 0, 1}, {0, Integer.MAX_VALUE, 1}};
        for (int[] b : bad) {
            Check.due("copy bad", x.copy(0, 1, b[0], b[1], b[2]), -2);
        }
        Check.due("nothing changed", x.element(1, 0) * 100 + x.element(1, 1) * 10 + x.element(1, 2), 345);
        Check.due("BAD", x.status(12), 2 + bad.length);
        Check.due("OTHER", x.status(13), 3);
        Check.due("NOTHING", x.status(14), 2);
    }

    private static void elements() {
        SendTheBox x = new SendTheBox();
        x.row(0, 3, 2);
        x.set(0, 1, -9);
        x.rule(1, 1, 5);
        Check.due("element", x.element(0, 1), -9);
        Check.due("no such place", x.element(0, 2), 0);
        Check.due("no such place", x.element(0, -1), 0);
        Check.due("no row", x.element(1, 0), 0);
        Check.due("nothing", x.element(2, 0), 0);
        Check.due("no shelf", x.element(8, 0), 0);
        Check.due("no shelf", x.element(-1, 0), 0);
        Check.due("holds no shelf", x.holds(8), -1);
        Check.due("holds no shelf", x.holds(-1), -1);
        for (int what = 12; what <= 16; what++) {
            Check.due("nothing is refused", x.status(what), 0);
        }
    }

    private static void rulesMade() {
        SendTheBox x = new SendTheBox();
        x.row(7, 0, 1);
        int[][] good = {{1, 0}, {1, 99}, {2, 1}, {2, 6}, {3, 1}, {3, 6}, {3, 991}, {3, 996}, {4, -5}, {4, 999}, {5, 7}};
        for (int[] g : good) {
            Check.due("rule " + g[0] + " " + g[1], x.rule(0, g[0], g[1]), 1);
            Check.due("holds", x.holds(0), 10 + g[0]);
        }
        int[][] bad = {{0, 0}, {6, 0}, {-1, 0}, {1, -1}, {1, 100}, {2, 0}, {2, 7}, {3, 0}, {3, 7}, {3, 10}, {3, 997},
            {3, 1001}, {3, -4}, {3, Integer.MIN_VALUE}, {5, -1}, {5, 8}};
        for (int[] b : bad) {
            Check.due("rule " + b[0] + " " + b[1], x.rule(1, b[0], b[1]), -2);
        }
        Check.due("bad shelf", x.rule(-1, 1, 1), -2);
        Check.due("bad shelf ahead", x.rule(8, 5, 0), -2);
        Check.due("holds nothing yet", x.holds(1), -1);
        Check.due("told of a rule", x.rule(1, 5, 0), -3);
        Check.due("told of nothing", x.rule(1, 5, 2), -4);
        Check.due("BAD", x.status(12), bad.length + 2);
        Check.due("told by its own shelf", x.rule(7, 5, 7), 1);
        Check.due("holds", x.holds(7), 15);
        Check.due("a row takes a rule's shelf", x.row(7, 1, 1), 1);
        Check.due("holds", x.holds(7), 1);
    }

    private static void toldRows() {
        SendTheBox x = new SendTheBox();
        Check.house(x, "sort room 1 comes 1 hold 1");
        x.row(0, 3, 3);
        x.set(0, 2, 1L << 50);
        x.rule(1, 5, 0);
        Check.due("fills in 2", x.load(0, 1, 2, 1), 2);
        Check.due("not in 1", x.load(0, 1, 1, 1), 0);
        Check.due("no element for 3", x.load(0, 1, 3, 1), 0);
        x.set(0, 2, 0);
        x.set(0, 1, 1);
        Check.due("the row as it was", x.load(0, 1, 2, 1), 2);
        Check.due("the row as it was", x.load(0, 1, 1, 1), 0);
        x.row(0, 0, 9);
        Check.due("as many as it had", x.says(1, 5), 3);
    }

    private static void says() {
        SendTheBox x = new SendTheBox();
        x.row(0, 4, 17);
        x.rule(1, 1, 42);
        x.rule(2, 2, 5);
        x.rule(3, 3, 276);
        x.rule(4, 4, 88);
        x.rule(5, 5, 0);
        int no = -3;
        int[][] want = {{0, 42, no, no, no, no}, {0, no, 5, no, no, no}, {0, 27, no, 6, no, no}, {0, no, no, no, 1, no},
            {0, no, no, no, no, 17}};
        for (int s = 1; s <= 5; s++) {
            for (int kind = 0; kind <= 5; kind++) {
                Check.due("says(" + s + ", " + kind + ")", x.says(s, kind), want[s - 1][kind]);
            }
        }
        Check.due("a row", x.says(0, 0), -3);
        Check.due("nothing", x.says(6, 0), -4);
        Check.due("bad shelf", x.says(8, 0), -2);
        Check.due("bad shelf", x.says(-1, 0), -2);
        Check.due("bad kind", x.says(0, 6), -2);
        Check.due("bad kind", x.says(6, -1), -2);
    }
}
