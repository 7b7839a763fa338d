/** Promises 18 to 21, 26 to 28 and 35 to 38: what is best, by hand. */
public final class BestTest {
    // A parcel comes every day for sure, so each cost is one sum of coins, times the scale.
    private static final String SURE = "days 2;box 5 room 4;sort room 2 comes 4 hold 1 refuse 7 left 4";

    public static void main(String[] args) {
        scales();
        sureCosts();
        drawnCosts();
        fullShip();
        ties();
        fills();
        waitsAndOnce();
        dears();
        promises();
        bars();
        judges();
        greatest();
        Check.finish();
    }

    private static void scales() {
        SendTheBox x = new SendTheBox();
        Check.house(x, "days 6;sort room 1 comes 1 hold 1;sort room 1 comes 1 hold 1;sort room 1 comes 1 hold 1");
        Check.house(x, "sort room 1 comes 1 hold 1");
        Check.due("no days left", x.scale(0, 0), 1);
        Check.due("one day, three sorts", x.scale(0, 1), 256);
        Check.due("six days, three sorts", x.scale(0, 6), 1L << 48);
        Check.due("three days, one sort", x.scale(1, 3), 4096);
        Check.due("more days than it has", x.scale(1, 4), -2);
        Check.due("more days than it has", x.scale(0, 7), -2);
        Check.due("less than none", x.scale(0, -1), -2);
        Check.due("no such house", x.scale(2, 0), -2);
        Check.due("status(12)", x.status(12), 4);
    }

    private static void sureCosts() {
        SendTheBox x = new SendTheBox();
        Check.house(x, SURE);
        long[][] coins = {{0, 4, 8, 12, 16}, {4, 9, 9, 14, 19}, {9, 10, 14, 15, 21}};
        int[][] loads = {{}, {0, 0, 2, 2, 2}, {0, 0, 2, 2, 2}};
        for (int left = 0; left <= 2; left++) {
            for (int state = 0; state <= 4; state++) {
                Check.due("cost " + left + " " + state, x.cost(0, left, state), coins[left][state] * x.scale(0, left));
                if (left > 0) {
                    Check.due("best " + left + " " + state, x.best(0, left, state), loads[left][state]);
                }
            }
        }
        Check.due("no such state", x.cost(0, 1, 5), -2);
        Check.due("no such state", x.cost(0, 1, -1), -2);
        Check.due("no such days", x.cost(0, 3, 0), -2);
        Check.due("no such days", x.cost(0, -1, 0), -2);
        Check.due("no such house", x.cost(1, 0, 0), -2);
        Check.due("no day left", x.best(0, 0, 0), -2);
        Check.due("no such days", x.best(0, 3, 0), -2);
        Check.due("no such state", x.best(0, 1, 5), -2);
        Check.due("no such house", x.best(-1, 1, 0), -2);
        Check.due("status(12)", x.status(12), 9);
        x.alter(0, 0, 0);
        Check.due("a box for nothing", x.cost(0, 1, 1), 4 * 16);
        Check.due("a box for nothing", x.best(0, 1, 1), 1);
        x.change(0, 0, 0, 0);
        Check.due("none comes", x.cost(0, 2, 1), 0);
    }

    private static void drawnCosts() {
        SendTheBox x = new SendTheBox();
        // One day, one quarter of a parcel that costs 8 if left, and refused at 4 standing: 16 parts.
        Check.house(x, "days 1;box 99 room 1;sort room 9 comes 1 hold 3 refuse 20 left 8");
        Check.due("from nothing", x.cost(0, 1, 0), 16 * 2);
        Check.due("from one", x.cost(0, 1, 1), 16 * (3 + 8 + 2));
        Check.due("from four", x.cost(0, 1, 4), 16 * (12 + 32 + 5));
    }

    private static void fullShip() {
        SendTheBox x = new SendTheBox();
        // One stands, none comes, left is dear: sent for 5 in three quarters, left for 41 in one.
        Check.house(x, "days 1;full 1;box 5 room 9;sort room 9 comes 0 hold 1 left 40");
        Check.due("cost", x.cost(0, 1, 1), 4 * (3 * 5 + 41));
        Check.due("waits", x.waits(0, 1, 1), 4 * 3 * 36);
        Check.due("once", x.once(0, 1, 1), 0);
        x.alter(0, 2, 3);
        Check.due("cost", x.cost(0, 1, 1), 4 * (5 + 3 * 41));
        Check.due("best still", x.best(0, 1, 1), 1);
    }

    private static void ties() {
        SendTheBox x = new SendTheBox();
        // Each of two parcels costs 5 if left; the box takes one: sort 0 is the lesser state.
        Check.house(x, "days 1;box 1 room 3;sort room 3 comes 0 hold 0 left 5;sort room 3 comes 0 hold 0 left 5");
        Check.due("the lesser load", x.best(0, 1, 6), 1);
        Check.due("only that", x.best(0, 1, 5), 5);
        x.alter(0, 0, 5);
        Check.due("nothing is the least", x.best(0, 1, 6), 0);
        x.alter(0, 0, 4);
        Check.due("it pays", x.best(0, 1, 6), 1);
        x.change(0, 1, 3, 6);
        Check.due("the dearer one", x.best(0, 1, 6), 5);
        // A parcel that costs nothing stays: of like costs the least load.
        x.change(0, 0, 3, 0);
        x.alter(0, 1, 40);
        Check.due("no more than pays", x.best(0, 1, 24), 20);
        String sort = "sort room 9 comes 0 hold 1";
        Check.house(x, "days 6;box 2 room 9;" + sort + ";" + sort + ";" + sort + " left 1");
        for (int left = 1; left <= 6; left++) {
            // One of each stands; a box takes one. It saves as many coins as days are left, one more of sort 2.
            Check.due("of three " + left, x.best(1, left, 31), left == 1 ? 0 : left == 2 ? 25 : 1);
            Check.due("of two " + left, x.best(1, left, 6), left <= 2 ? 0 : 1);
            Check.due("of sorts 1 and 2 " + left, x.best(1, left, 30), left == 1 ? 0 : left == 2 ? 25 : 5);
        }
        Check.due("a day more of hold", x.waits(1, 6, 25), 1L << 48);
    }

    private static void fills() {
        SendTheBox x = new SendTheBox();
        Check.house(x, "box 1 room 7;sort room 2 comes 1 hold 3;sort room 3 comes 1 hold 5;sort room 1 comes 1 hold 3");
        Check.due("nothing", x.fill(0, 0), 0);
        Check.due("by hold", x.fill(0, 4 + 5), 5 + 2);
        Check.due("the greatest first", x.fill(0, 4 + 20), 10);
        Check.due("room yet for a small one", x.fill(0, 4 + 20 + 50), 10 + 25);
        Check.due("like ones by number", x.fill(0, 4 + 100), 3 + 25);
        Check.due("no such state", x.fill(0, 125), -2);
        Check.due("no such state", x.fill(0, -1), -2);
        Check.due("no such house", x.fill(1, 0), -2);
        x.alter(0, 1, 1);
        Check.due("a small box", x.fill(0, 24), 0);
        Check.due("a small box", x.fill(0, 124), 25);
        x.change(0, 2, 1, 0);
        Check.due("hold of 0, too", x.fill(0, 124), 25);
    }

    private static void waitsAndOnce() {
        SendTheBox x = new SendTheBox();
        Check.house(x, SURE);
        long[] nothing = {0, 0, 5, 5, 8};
        long[] filled = {0, 0, 0, 0, 0};
        for (int state = 0; state <= 4; state++) {
            Check.due("waits " + state, x.waits(0, 1, state), nothing[state] * 16);
            Check.due("once " + state, x.once(0, 1, state), filled[state] * 16);
        }
        Check.due("waits", x.waits(0, 2, 4), (30 - 21) * 256);
        Check.due("once", x.once(0, 2, 1), (14 - 10) * 256);
        Check.due("waits: no day left", x.waits(0, 0, 0), -2);
        Check.due("waits: no such days", x.waits(0, 3, 0), -2);
        Check.due("waits: no such state", x.waits(0, 1, 5), -2);
        Check.due("waits: no such house", x.waits(1, 1, 0), -2);
        Check.due("once: no day left", x.once(0, 0, 0), -2);
        Check.due("once: no such days", x.once(0, 3, 0), -2);
        Check.due("once: no such state", x.once(0, 1, 5), -2);
        Check.due("once: no such house", x.once(1, 1, 0), -2);
        Check.due("status(12)", x.status(12), 8);
    }

    private static void dears() {
        SendTheBox x = new SendTheBox();
        Check.house(x, SURE);
        Check.due("no days left", x.dear(0, 0, 3, 0), 4);
        Check.due("one day", x.dear(0, 1, 0, 0), 5 * 16);
        Check.due("one day", x.dear(0, 1, 1, 0), 0);
        Check.due("two days", x.dear(0, 2, 3, 0), 6 * 256);
        Check.due("4 stand", x.dear(0, 1, 4, 0), -2);
        Check.due("no such sort", x.dear(0, 1, 0, 1), -2);
        Check.due("no such sort", x.dear(0, 1, 0, -1), -2);
        Check.due("no such days", x.dear(0, 3, 0, 0), -2);
        Check.due("no such state", x.dear(0, 1, 5, 0), -2);
        Check.due("no such house", x.dear(1, 1, 0, 0), -2);
        Check.house(x, "days 1;box 2 room 9;sort room 1 comes 0 hold 9;sort room 5 comes 0 hold 1 left 1");
        Check.due("less dear with it", x.dear(1, 0, 1, 1), 1);
        Check.due("it goes in the same box", x.dear(1, 1, 1, 1), 0);
        Check.due("for itself", x.dear(1, 1, 0, 1), 64 * 2);
    }

    private static void promises() {
        SendTheBox x = new SendTheBox();
        Check.house(x, SURE);
        Check.due("nothing is there to send", x.promise(0, 2), 0);
        // On the last day 1 stands: sent for 5 (and 4 left) as well as kept for 1 (and 8 left).
        Check.due("as well", x.promise(0, 1), 0);
        x.alter(0, 0, 25);
        Check.due("dearer now", x.promise(0, 1), 20 * 256);
        x.alter(0, 2, 1);
        Check.due("not if the ship is full", x.promise(0, 1), 20 * 192);
        x.alter(0, 1, 1);
        Check.due("no load is something", x.promise(0, 1), 0);
        Check.due("no such days", x.promise(0, 0), -2);
        Check.due("no such days", x.promise(0, 3), -2);
        Check.due("no such house", x.promise(1, 1), -2);
        Check.house(x, "days 3;box 50 room 9;sort room 2 comes 4 hold 0 left 60");
        // 1 stands with 2 left, 2 with 1 left; best sends both at the end and leaves the third.
        Check.due("cost", x.cost(1, 3, 0), (50 + 60) * 4096L);
        Check.due("promised with 2 left", x.promise(1, 2), 50 * 4096L);
        Check.due("promised with 1 left", x.promise(1, 1), 0);
    }

    private static void bars() {
        SendTheBox x = new SendTheBox();
        Check.house(x, SURE);
        Check.due("the least r, which is no state's room", x.shape(0, 1), 3);
        Check.due("it is a bar", x.odd(0, 1), -1);
        x.alter(0, 0, 99);
        x.change(0, 0, 2, 0);
        x.change(0, 0, 3, 0);
        Check.due("it never does", x.shape(0, 1), -1);
        Check.due("it never does", x.odd(0, 1), -1);
        Check.house(x, "days 1;box 1 room 10;sort room 1 comes 0 hold 9;sort room 9 comes 0 hold 0");
        Check.due("best", x.best(1, 1, 1), 1);
        Check.due("no bar", x.shape(1, 1), -1);
        Check.due("odd", x.odd(1, 1), 5);
        Check.house(x, "days 1;box 1 room 10;sort room 5 comes 0 hold 0;sort room 6 comes 0 hold 9");
        // Two of sort 0 have more room than one of sort 1, but are not sent; one alone has less.
        Check.due("odd", x.odd(2, 1), 2);
        Check.due("no bar", x.shape(2, 1), -1);
        Check.house(x, "days 1;box 1 room 10;sort room 4 comes 0 hold 9;sort room 4 comes 0 hold 0");
        Check.due("odd: of the same room", x.odd(3, 1), 5);
        Check.due("no bar", x.shape(3, 1), -1);
        for (int left : new int[] {0, 2, -1}) {
            Check.due("shape: no such days", x.shape(2, left), -2);
            Check.due("odd: no such days", x.odd(2, left), -2);
        }
        Check.due("shape: no such house", x.shape(4, 1), -2);
        Check.due("odd: no such house", x.odd(4, 1), -2);
    }

    private static void judges() {
        SendTheBox x = new SendTheBox();
        Check.house(x, "box 1 room 7;sort room 2 comes 1 hold 3;sort room 3 comes 1 hold 5");
        x.row(0, 3, 2);
        x.row(1, 3, 1);
        x.rule(2, 4, 0);
        x.row(4, 4, 125);
        long[][] rows = {{0, 0, 0}, {2, 1, 0}, {2, 2, 2}, {3, 0, 1}, {0, 3, 1}, {-1, 0, 1}, {0, -1, 1}, {1L << 32, 0, 1}};
        for (long[] r : rows) {
            x.set(0, 0, r[0]);
            x.set(0, 1, r[1]);
            Check.due("judge " + r[0] + " " + r[1], x.judge(0, 12, 0), r[2]);
        }
        Check.due("room is 9", x.judge(0, 24, 4), 0);
        x.set(0, 0, 4);
        x.set(0, 1, 4);
        Check.due("too much room", x.judge(0, 24, 0), 2);
        Check.due("more than stand is ahead", x.judge(0, 14, 0), 1);
        x.set(4, 0, 8);
        Check.due("so as the row tells it", x.judge(0, 1, 4), 0);
        Check.due("too few elements", x.judge(0, 12, 1), -2);
        Check.due("a rule", x.judge(0, 12, 2), -3);
        Check.due("nothing", x.judge(0, 12, 3), -4);
        Check.due("bad state ahead", x.judge(0, 25, 2), -2);
        Check.due("bad house ahead", x.judge(1, 12, 2), -2);
        Check.due("bad shelf", x.judge(0, 12, 8), -2);
    }

    private static void greatest() {
        SendTheBox x = new SendTheBox();
        String sort = "sort room 9 comes 4 hold 9 refuse 99 left 99";
        Check.house(x, "days 6;box 99 room 1;" + sort + ";" + sort + ";" + sort);
        // Nothing ever fits: six days of hold, refused from the fifth on, twelve left.
        long coins = 27 * (1 + 2 + 3 + 4 + 4) + 2 * 297 + 12 * 99;
        Check.due("the greatest cost from nothing", x.cost(0, 6, 0), coins << 48);
        Check.due("the greatest cost", x.cost(0, 6, 124), (6L * (108 + 297) + 1188) << 48);
    }
}
