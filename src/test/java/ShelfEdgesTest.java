/** "2. SHELVES, RULES": each sentence that names a boundary, at it, one short of it and one past it. */
public final class ShelfEdgesTest {
    private static final String SORT = "sort room 1 comes 1 hold 1";

    public static void main(String[] args) {
        shelvesZeroToSeven();
        nothingAtFirst();
        noneToAllElements();
        fiveSorts();
        bytes();
        shorts();
        ints();
        longs();
        booleans();
        copiesAsTheyWere();
        copiesToTheEnds();
        elementsThatAreNone();
        fullAtLeast();
        fullZeroToNinetyNine();
        dayModulo();
        bothIfEither();
        bothNumbers();
        bestByAnyNumber();
        toldIfThereAndNotZero();
        toldAsItWas();
        whatRulesSay();
        aShelfIsTakenAgain();
        Check.finish();
    }

    private static SendTheBox with(String text) {
        SendTheBox x = new SendTheBox();
        Check.due("house of '" + text + "'", Check.house(x, text), 0);
        return x;
    }

    // "SHELVES 0 to 7"
    private static void shelvesZeroToSeven() {
        SendTheBox x = with(SORT);
        for (int s : new int[] {-1, 0, 7, 8}) {
            boolean may = s == 0 || s == 7;
            Check.due("row " + s, x.row(s, 3, 2), may ? 1 : -2);
            Check.due("holds " + s, x.holds(s), may ? 3 : -1);
            Check.due("set " + s, x.set(s, 1, 5), may ? 1 : -2);
            Check.due("element " + s, x.element(s, 1), may ? 5 : 0);
            Check.due("copy from " + s, x.copy(s, 0, 0, 0, 2), may ? 2 : -2);
            Check.due("copy to " + s, x.copy(0, s, 0, 0, 2), may ? 2 : -2);
            Check.due("judge " + s, x.judge(0, 4, s), may ? 0 : -2);
            Check.due("rule told of " + s, x.rule(3, 5, s), may ? 1 : -2);
            Check.due("rule " + s, x.rule(s, 1, 1), may ? 1 : -2);
            Check.due("says " + s, x.says(s, 1), may ? 1 : -2);
            Check.due("load " + s, x.load(0, 1, 4, s), may ? 4 : -2);
            Check.due("mean " + s, Math.min(0, x.mean(0, 1, 4, s)), may ? 0 : -2);
            Check.due("lose " + s, Math.min(0, x.lose(0, 1, 4, s)), may ? 0 : -2);
            Check.due("chance " + s, x.chance(0, 3, 0, s), may ? 1 : -2);
            Check.due("reach " + s, x.reach(0, 3, s), may ? 1 : -2);
            Check.due("held " + s, x.held(0, 0, s), may ? 0 : -2);
            Check.due("boxes " + s, Math.min(0, x.boxes(0, s)), may ? 0 : -2);
            Check.due("begin " + s, x.begin(0, s), may ? 3 : -2);
            Check.due("weeks " + s, Math.min(0, x.weeks(0, s, 1)), may ? 0 : -2);
            x.row(0, 3, 2);
        }
    }

    // "hold NOTHING (at first)"
    private static void nothingAtFirst() {
        SendTheBox x = with(SORT);
        for (int s = 0; s <= 7; s++) {
            Check.due("holds", x.holds(s), -1);
            Check.due("set", x.set(s, 0, 0), -4);
            Check.due("says", x.says(s, 0), -4);
            Check.due("begin", x.begin(0, s), -4);
            Check.due("element", x.element(s, 0), 0);
        }
        Check.due("SHELVES that hold something", x.status(3), 0);
        for (int s = 0; s <= 7; s++) {
            x.row(s, 0, 0);
            Check.due("SHELVES that hold something", x.status(3), s + 1);
        }
        x.rule(4, 4, 0);
        Check.due("a RULE is something, too", x.status(3), 8);
    }

    // "0 to 125 elements (0, or not so, at first)"
    private static void noneToAllElements() {
        SendTheBox x = new SendTheBox();
        for (int sort = 0; sort <= 4; sort++) {
            for (int n : new int[] {0, 1, 124, 125}) {
                Check.due("row of " + n, x.row(1, sort, n), 1);
                Check.due("first", x.element(1, 0), 0);
                Check.due("last", x.element(1, n - 1), 0);
                Check.due("set the last", x.set(1, n - 1, 1), n == 0 ? -2 : 1);
                Check.due("it is", x.element(1, n - 1), n == 0 ? 0 : 1);
                Check.due("set one past it", x.set(1, n, 1), -2);
                Check.due("nothing there", x.element(1, n), 0);
                Check.due("set one short of the first", x.set(1, -1, 1), -2);
                Check.due("nothing there", x.element(1, -1), 0);
            }
            Check.due("row of 126", x.row(1, sort, 126), -2);
            Check.due("row of -1", x.row(1, sort, -1), -2);
            Check.due("the one ahead stays", x.element(1, 124), 1);
        }
    }

    // "a SORT (0 bytes, 1 shorts, 2 ints, 3 longs, 4 booleans)"
    private static void fiveSorts() {
        SendTheBox x = new SendTheBox();
        for (int sort = -1; sort <= 5; sort++) {
            boolean may = sort >= 0 && sort <= 4;
            Check.due("row of sort " + sort, x.row(2, sort, 1), may ? 1 : -2);
            Check.due("holds", x.holds(2), sort < 0 ? -1 : may ? sort : 4);
        }
    }

    private static void kept(int sort, long v, long want) {
        SendTheBox x = new SendTheBox();
        x.row(0, sort, 3);
        x.set(0, 0, 1);
        x.set(0, 2, 1);
        Check.due("set " + v, x.set(0, 1, v), 1);
        Check.due("sort " + sort + " keeps " + v + " as", x.element(0, 1), want);
        Check.due("those beside it stay", x.element(0, 0) + x.element(0, 2), 2);
    }

    // "what is put in keeps its lowest bits"
    private static void bytes() {
        long[][] want = {{0, 0}, {127, 127}, {128, -128}, {129, -127}, {255, -1}, {256, 0}, {257, 1}, {-1, -1}, {-128, -128},
            {-129, 127}, {-256, 0}, {1L << 32, 0}, {Long.MAX_VALUE, -1}, {Long.MIN_VALUE, 0}};
        for (long[] w : want) {
            kept(0, w[0], w[1]);
        }
    }

    private static void shorts() {
        long[][] want = {{0, 0}, {128, 128}, {32767, 32767}, {32768, -32768}, {65535, -1}, {65536, 0}, {65537, 1}, {-32768, -32768},
            {-32769, 32767}, {1L << 40, 0}, {Long.MAX_VALUE, -1}, {Long.MIN_VALUE, 0}};
        for (long[] w : want) {
            kept(1, w[0], w[1]);
        }
    }

    private static void ints() {
        long low = Integer.MIN_VALUE;
        long high = Integer.MAX_VALUE;
        long[][] want = {{0, 0}, {65536, 65536}, {high, high}, {high + 1, low}, {1L << 32, 0}, {(1L << 32) + 1, 1}, {low, low},
            {low - 1, high}, {Long.MAX_VALUE, -1}, {Long.MIN_VALUE, 0}};
        for (long[] w : want) {
            kept(2, w[0], w[1]);
        }
    }

    private static void longs() {
        for (long v : new long[] {0, 1, -1, 1L << 32, Integer.MIN_VALUE, Long.MAX_VALUE, Long.MIN_VALUE}) {
            kept(3, v, v);
        }
    }

    // "(of booleans: whether it is not 0); told they are numbers (1, 0)"
    private static void booleans() {
        for (long v : new long[] {1, -1, 2, 256, 65536, 1L << 32, Long.MAX_VALUE, Long.MIN_VALUE}) {
            kept(4, v, 1);
        }
        kept(4, 0, 0);
    }

    private static SendTheBox counting() {
        SendTheBox x = new SendTheBox();
        for (int s = 0; s <= 1; s++) {
            x.row(s, 0, 6);
            for (int i = 0; i < 6; i++) {
                x.set(s, i, 1 + i + 10 * s);
            }
        }
        return x;
    }

    private static void row(String what, SendTheBox x, int s, int... want) {
        for (int i = 0; i < want.length; i++) {
            Check.due(what + ", element " + i, x.element(s, i), want[i]);
        }
    }

    // copy: "(as they were)"
    private static void copiesAsTheyWere() {
        SendTheBox x = counting();
        Check.due("a place on", x.copy(0, 0, 0, 1, 5), 5);
        row("a place on", x, 0, 1, 1, 2, 3, 4, 5);
        x = counting();
        Check.due("a place back", x.copy(0, 0, 1, 0, 5), 5);
        row("a place back", x, 0, 2, 3, 4, 5, 6, 6);
        x = counting();
        Check.due("to where it is", x.copy(0, 0, 0, 0, 6), 6);
        row("to where it is", x, 0, 1, 2, 3, 4, 5, 6);
        x = counting();
        Check.due("to the other", x.copy(0, 1, 2, 3, 2), 2);
        row("to the other", x, 1, 11, 12, 13, 3, 4, 16);
        row("this one stays", x, 0, 1, 2, 3, 4, 5, 6);
        x.set(0, 2, 99);
        Check.due("each has its own", x.element(1, 3), 3);
    }

    private static void copiesToTheEnds() {
        int[][] may = {{0, 0, 6}, {0, 0, 0}, {5, 0, 1}, {0, 5, 1}, {5, 5, 1}, {4, 0, 2}, {0, 4, 2}, {5, 5, 0}, {6, 6, 0}};
        for (int[] c : may) {
            Check.due("copy " + c[0] + " " + c[1] + " " + c[2], counting().copy(0, 1, c[0], c[1], c[2]), c[2]);
        }
        int[][] not = {{0, 0, 7}, {1, 0, 6}, {0, 1, 6}, {5, 0, 2}, {0, 5, 2}, {6, 0, 1}, {0, 6, 1}, {-1, 0, 1}, {0, -1, 1},
            {0, 0, -1}, {7, 0, 0}, {0, 7, 0}, {-1, 0, 0}, {0, -1, 0}};
        for (int[] c : not) {
            SendTheBox x = counting();
            Check.due("copy " + c[0] + " " + c[1] + " " + c[2], x.copy(0, 1, c[0], c[1], c[2]), -2);
            row("nothing is copied", x, 1, 11, 12, 13, 14, 15, 16);
        }
        SendTheBox x = counting();
        x.row(2, 0, 0);
        Check.due("none of none", x.copy(2, 2, 0, 0, 0), 0);
        Check.due("one of none", x.copy(2, 0, 0, 0, 1), -2);
        Check.due("one to none", x.copy(0, 2, 0, 0, 1), -2);
        x.row(3, 0, 125);
        x.row(4, 0, 125);
        x.set(3, 124, 9);
        Check.due("all there can be", x.copy(3, 4, 0, 0, 125), 125);
        Check.due("the last", x.element(4, 124), 9);
        Check.due("one more", x.copy(3, 4, 0, 0, 126), -2);
    }

    // element: "0: none, no ROW (nothing is refused)"
    private static void elementsThatAreNone() {
        SendTheBox x = counting();
        x.rule(2, 1, 5);
        long[] none = {x.element(0, 6), x.element(0, -1), x.element(2, 0), x.element(3, 0), x.element(8, 0), x.element(-1, 0),
            x.element(Integer.MAX_VALUE, Integer.MIN_VALUE)};
        for (long v : none) {
            Check.due("none", v, 0);
        }
        Check.due("the last", x.element(0, 5), 6);
        for (int what = 12; what <= 16; what++) {
            Check.due("nothing is refused", x.status(what), 0);
        }
    }

    // "FILL, if the ROOM of what STANDS is a at least"
    private static void fullAtLeast() {
        SendTheBox x = with("sort room 3 comes 1 hold 1;sort room 5 comes 1 hold 2");
        // 2 of sort 0 and 1 of sort 1: room 11.
        for (int a = 10; a <= 12; a++) {
            x.rule(0, 1, a);
            Check.due("room of 11, asked " + a, x.load(0, 1, 7, 0), a <= 11 ? x.fill(0, 7) : 0);
        }
        Check.due("fill has something", x.fill(0, 7), 6);
        x.rule(0, 1, 0);
        Check.due("of nothing nothing", x.load(0, 1, 0, 0), 0);
    }

    // "a (0 to 99)"
    private static void fullZeroToNinetyNine() {
        SendTheBox x = with("box 1 room 40;sort room 9 comes 1 hold 1;sort room 9 comes 1 hold 1;sort room 9 comes 1 hold 1");
        Check.due("-1", x.rule(0, 1, -1), -2);
        Check.due("100", x.rule(0, 1, 100), -2);
        Check.due("0", x.rule(0, 1, 0), 1);
        Check.due("always", x.load(0, 1, 1, 0), 1);
        Check.due("99", x.rule(0, 1, 99), 1);
        Check.due("eleven have room 99", x.load(0, 1, 124 - 25, 0), x.fill(0, 124 - 25));
        Check.due("ten have 90", x.load(0, 1, 124 - 50, 0), 0);
    }

    // "FILL, if DAYS left modulo a (1 to 6) is 0"
    private static void dayModulo() {
        SendTheBox x = with("days 6;" + SORT);
        Check.due("0", x.rule(0, 2, 0), -2);
        Check.due("7", x.rule(0, 2, 7), -2);
        for (int a = 1; a <= 6; a++) {
            Check.due("a", x.rule(0, 2, a), 1);
            for (int left = 1; left <= 6; left++) {
                Check.due("left " + left + " modulo " + a, x.load(0, left, 3, 0), left % a == 0 ? 3 : 0);
            }
        }
    }

    // BOTH: "if either"
    private static void bothIfEither() {
        SendTheBox x = with("days 6;sort room 2 comes 1 hold 1");
        x.rule(0, 3, 10 * 6 + 4);
        for (int left = 1; left <= 6; left++) {
            for (int state = 0; state <= 4; state++) {
                Check.due("left " + left + ", state " + state, x.load(0, left, state, 0), state >= 3 || left == 4 ? state : 0);
            }
        }
        x.rule(0, 3, 1);
        Check.due("0 and 1: always", x.load(0, 5, 1, 0), 1);
        x.rule(0, 3, 996);
        Check.due("99 and 6: with six left", x.load(0, 6, 4, 0), 4);
        Check.due("not with five", x.load(0, 5, 4, 0), 0);
    }

    // "(a: 10 times its number, 0 to 99, and 1 to 6)"
    private static void bothNumbers() {
        SendTheBox x = new SendTheBox();
        for (int a = -12; a <= 1012; a++) {
            boolean may = a > 0 && a < 1000 && a % 10 >= 1 && a % 10 <= 6;
            Check.due("rule BOTH by " + a, x.rule(0, 3, a), may ? 1 : -2);
            if (may) {
                Check.due("the ROOM it asks", x.says(0, 1), a / 10);
                Check.due("the DAYS", x.says(0, 3), a % 10);
            }
        }
    }

    // "of BEST it doesn't matter"
    private static void bestByAnyNumber() {
        SendTheBox x = with("days 1;box 0 room 3;sort room 1 comes 1 hold 9");
        for (int a : new int[] {-1, 0, 1, 8, 100, Integer.MAX_VALUE, Integer.MIN_VALUE}) {
            Check.due("rule BEST by " + a, x.rule(0, 4, a), 1);
            Check.due("its LOAD", x.load(0, 1, 4, 0), 3);
            Check.due("says", x.says(0, 4), 1);
            Check.due("loses nothing", x.lose(0, 1, 4, 0), 0);
        }
    }

    // "if the element of a ROW at the STATE is there and not 0"
    private static void toldIfThereAndNotZero() {
        SendTheBox x = with("box 1 room 40;" + SORT + ";" + SORT + ";" + SORT);
        for (int n : new int[] {0, 1, 124, 125}) {
            x.row(0, 4, n);
            for (int i = 0; i < n; i++) {
                x.set(0, i, 1);
            }
            x.rule(1, 5, 0);
            Check.due("the last", x.load(0, 1, 124, 1), n > 124 ? 124 : 0);
            Check.due("the one ahead", x.load(0, 1, 123, 1), n > 123 ? 123 : 0);
            Check.due("the second", x.load(0, 1, 1, 1), n > 1 ? 1 : 0);
            Check.due("of nothing nothing", x.load(0, 1, 0, 1), 0);
            Check.due("says", x.says(1, 5), n);
        }
        long[] there = {-128, 1, 256, 1L << 32};
        int[][] fills = {{1, 1, 0, 0}, {1, 1, 1, 0}, {1, 1, 1, 0}, {1, 1, 1, 1}, {1, 1, 1, 1}};
        for (int sort = 0; sort <= 4; sort++) {
            for (int i = 0; i < there.length; i++) {
                x.row(0, sort, 4);
                x.set(0, 3, there[i]);
                x.rule(1, 5, 0);
                Check.due("sort " + sort + ", element " + there[i], x.load(0, 1, 3, 1), fills[sort][i] * 3);
            }
        }
    }

    // "(as it was)"
    private static void toldAsItWas() {
        SendTheBox x = with(SORT);
        x.row(0, 0, 3);
        x.set(0, 2, 1);
        x.rule(1, 5, 0);
        x.rule(2, 5, 0);
        x.set(0, 2, 0);
        x.set(0, 1, 1);
        Check.due("set later", x.load(0, 1, 2, 1) + 10 * x.load(0, 1, 1, 1), 2);
        x.copy(0, 0, 0, 1, 1);
        x.row(0, 0, 125);
        Check.due("another ROW later", x.says(1, 5), 3);
        x.rule(0, 4, 0);
        Check.due("a RULE there later", x.load(0, 1, 2, 1), 2);
        x.row(1, 0, 1);
        Check.due("the other rule stays", x.load(0, 1, 2, 2), 2);
        x.row(3, 4, 2);
        x.set(3, 1, 1);
        Check.due("told in its own ROW's SHELF", x.rule(3, 5, 3), 1);
        Check.due("it is a RULE now", x.holds(3), 15);
        Check.due("by the ROW that was there", x.load(0, 1, 1, 3), 1);
        Check.due("no more a ROW", x.rule(4, 5, 3), -3);
    }

    // "RULE 0; FULL the ROOM it asks (of BOTH, too); DAY its a; BOTH the DAYS; BEST 1; TOLD how many elements"
    private static void whatRulesSay() {
        SendTheBox x = new SendTheBox();
        int[][] rules = {{1, 0, 0}, {1, 99, 99}, {2, 1, 1}, {2, 6, 6}, {3, 1, 1}, {3, 996, 6}, {4, 77, 1}};
        for (int[] r : rules) {
            x.rule(0, r[0], r[1]);
            Check.due("holds", x.holds(0), 10 + r[0]);
            Check.due("says as RULE", x.says(0, 0), 0);
            Check.due("says as its own", x.says(0, r[0]), r[2]);
            Check.due("says as FULL", x.says(0, 1), r[0] == 1 ? r[2] : r[0] == 3 ? r[1] / 10 : -3);
            Check.due("says as BOTH", x.says(0, 3), r[0] == 3 ? r[2] : -3);
            Check.due("says as DAY", x.says(0, 2), r[0] == 2 ? r[2] : -3);
            Check.due("says as BEST", x.says(0, 4), r[0] == 4 ? 1 : -3);
            Check.due("says as TOLD", x.says(0, 5), -3);
            Check.due("says as no KIND", x.says(0, 6), -2);
            Check.due("says as no KIND", x.says(0, -1), -2);
        }
        for (int n : new int[] {0, 1, 125}) {
            x.row(1, 2, n);
            x.rule(2, 5, 1);
            Check.due("says as TOLD", x.says(2, 5), n);
            Check.due("says as RULE", x.says(2, 0), 0);
            Check.due("says as FULL", x.says(2, 1), -3);
        }
    }

    private static void aShelfIsTakenAgain() {
        SendTheBox x = new SendTheBox();
        x.row(5, 1, 4);
        x.set(5, 3, 8);
        Check.due("a RULE where a ROW is", x.rule(5, 2, 3), 1);
        Check.due("holds", x.holds(5), 12);
        Check.due("no element", x.element(5, 3), 0);
        Check.due("a RULE where a RULE is", x.rule(5, 1, 9), 1);
        Check.due("holds", x.holds(5), 11);
        Check.due("a ROW where a RULE is", x.row(5, 1, 4), 1);
        Check.due("holds", x.holds(5), 1);
        Check.due("says", x.says(5, 1), -3);
        Check.due("0 at first", x.element(5, 3), 0);
        Check.due("one SHELF", x.status(3), 1);
        Check.due("a refused ROW takes nothing", x.row(5, 1, 126) + x.row(5, 5, 1), -4);
        Check.due("a refused RULE takes nothing", x.rule(5, 1, 100) + x.rule(5, 5, 6), -6);
        Check.due("holds", x.holds(5), 1);
    }
}
