/** Promises 39 and 40: houses that share a box. */
public final class JoinTest {
    private static final String SORT = "sort room 1 comes 1 hold 1";

    public static void main(String[] args) {
        joined();
        refusals();
        savings();
        Check.finish();
    }

    private static void joined() {
        SendTheBox x = new SendTheBox();
        Check.house(x, "days 4;box 11 room 12;full 1;sort room 2 comes 3 hold 4 refuse 5 left 6;sort room 7 comes 2 hold 1");
        Check.house(x, "days 4;box 1 room 2;full 3;sort room 8 comes 4 hold 9 refuse 98 left 97");
        Check.due("join", x.join(0, 1), 2);
        Check.due("join the other way", x.join(1, 0), 3);
        int[] first = {4, 11, 12, 1, 3};
        int[] second = {4, 1, 2, 3, 3};
        int[][] sorts = {{2, 3, 4, 5, 6}, {7, 2, 1, 0, 0}, {8, 4, 9, 98, 97}};
        int[] turned = {1, 2, 0};
        for (int what = 0; what <= 4; what++) {
            Check.due("houseOf", x.houseOf(2, what), first[what]);
            Check.due("houseOf", x.houseOf(3, what), second[what]);
            for (int sort = 0; sort < 3; sort++) {
                Check.due("sortOf", x.sortOf(2, sort, what), sorts[sort][what]);
                Check.due("sortOf", x.sortOf(3, turned[sort], what), sorts[sort][what]);
            }
        }
        x.alter(2, 0, 50);
        x.change(2, 2, 0, 0);
        Check.due("the first stays", x.houseOf(0, 1), 11);
        Check.due("the second stays", x.sortOf(1, 0, 1), 4);
        Check.due("status(0)", x.status(0), 4);
    }

    private static void refusals() {
        SendTheBox x = new SendTheBox();
        Check.house(x, SORT + ";" + SORT);
        Check.house(x, SORT + ";" + SORT);
        Check.house(x, "days 2;" + SORT);
        Check.house(x, SORT);
        int[][] bad = {{0, 0}, {0, 4}, {-1, 0}, {4, 4}};
        for (int[] b : bad) {
            Check.due("join bad", x.join(b[0], b[1]), -2);
            Check.due("saved bad", x.saved(b[0], b[1]), -2);
        }
        Check.due("too many sorts", x.join(0, 1), -5);
        Check.due("too many sorts", x.saved(0, 1), -5);
        Check.due("other days", x.join(0, 2), -5);
        Check.due("other days", x.saved(2, 0), -5);
        Check.due("join", x.join(3, 0), 4);
        Check.due("join", x.join(0, 3), 5);
        Check.due("full", x.join(0, 3), -6);
        Check.due("stuck ahead of full", x.join(0, 2), -5);
        Check.due("bad ahead of full", x.join(3, 3), -2);
        Check.due("saved isn't", x.saved(0, 3) >= 0 ? 1 : 0, 1);
        Check.due("BAD", x.status(12), 9);
        Check.due("STUCK", x.status(15), 5);
        Check.due("FULL", x.status(16), 1);
        Check.due("HOUSES", x.status(0), 6);
    }

    private static void savings() {
        SendTheBox x = new SendTheBox();
        // Two days: one parcel of each stands on the last, each worth a box of 20.
        Check.house(x, "days 2;box 20 room 9;sort room 2 comes 4 hold 0 left 50");
        Check.house(x, "days 2;box 20 room 9;sort room 3 comes 4 hold 0 left 60");
        Check.due("by itself", x.cost(0, 2, 0), 70 * 256);
        Check.due("by itself", x.cost(1, 2, 0), 80 * 256);
        Check.due("one box is saved", x.saved(0, 1), 20 * 4096);
        Check.due("either way", x.saved(1, 0), 20 * 4096);
        Check.due("no house is made", x.status(0), 2);
        x.alter(0, 1, 4);
        Check.due("no room for both", x.saved(0, 1), 0);
        Check.due("the first's room", x.saved(1, 0), 20 * 4096);
        x.alter(0, 2, 3);
        Check.due("0 at least", x.saved(0, 1), 0);
        Check.due("joined", x.join(0, 1), 2);
        Check.due("it costs more", x.cost(2, 2, 0) > 64 * x.cost(0, 2, 0) / 4 + 64 * x.cost(1, 2, 0) / 4 ? 1 : 0, 1);
    }
}
