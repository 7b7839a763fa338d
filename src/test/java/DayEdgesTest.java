/** "1. HOUSES", states, loads and days: each sentence that names a boundary, at it, one short of it and one past it. */
public final class DayEdgesTest {
    private static final String SORT = "sort room 1 comes 1 hold 1";

    public static void main(String[] args) {
        zeroToFourOfEachSort();
        sortsThatAHouseHasNot();
        noMoreThanStands();
        noMoreRoomThanTheBox();
        roomOfAllTogether();
        fullQuarters();
        theBoxCostsIfItIsNotNothing();
        whatIsLeftCostsHold();
        aFifthIsRefused();
        comesQuarters();
        noDaysLeft();
        noneToAllDays();
        ofSeveralTheLeast();
        fillGreatestHoldFirst();
        fillAsManyAsHaveRoom();
        aHouseAsItIsNow();
        oneDayHouse();
        Check.finish();
    }

    private static SendTheBox with(String text) {
        SendTheBox x = new SendTheBox();
        Check.due("house of '" + text + "'", Check.house(x, text), 0);
        return x;
    }

    // "of each SORT 0 to 4 parcels; a STATE: of SORT 0, and 5 times of SORT 1, and 25 times of SORT 2"
    private static void zeroToFourOfEachSort() {
        SendTheBox x = new SendTheBox();
        int[][] want = {{0, 0, 0, 0}, {1, 1, 0, 0}, {4, 4, 0, 0}, {5, 0, 1, 0}, {6, 1, 1, 0}, {20, 0, 4, 0}, {24, 4, 4, 0},
            {25, 0, 0, 1}, {49, 4, 4, 1}, {50, 0, 0, 2}, {99, 4, 4, 3}, {100, 0, 0, 4}, {119, 4, 3, 4}, {123, 3, 4, 4},
            {124, 4, 4, 4}};
        for (int[] w : want) {
            for (int sort = 0; sort <= 2; sort++) {
                Check.due("of(" + w[0] + ", " + sort + ")", x.of(w[0], sort), w[1 + sort]);
            }
        }
        Check.due("one past the last STATE", x.of(125, 0), -2);
        Check.due("one short of the first", x.of(-1, 0), -2);
        Check.due("one past the last SORT", x.of(124, 3), -2);
        Check.due("one short of the first", x.of(124, -1), -2);
    }

    // "(SORTS that a HOUSE hasn't: 0)"
    private static void sortsThatAHouseHasNot() {
        SendTheBox x = with(SORT);
        Check.house(x, SORT + ";" + SORT);
        Check.house(x, SORT + ";" + SORT + ";" + SORT);
        x.rule(0, 1, 1);
        x.row(1, 0, 3);
        int[] last = {4, 24, 124};
        int[] room = {4, 8, 12};
        for (int h = 0; h < 3; h++) {
            for (int state = last[h]; state <= last[h] + 1; state++) {
                boolean may = state == last[h];
                Check.due("space", x.space(h, state), may ? room[h] : -2);
                Check.due("fill", may ? x.space(h, x.fill(h, state)) : x.fill(h, state), may ? Math.min(10, room[h]) : -2);
                Check.due("cost", x.cost(h, 0, state), may ? 0 : -2);
                Check.due("best", Math.min(0, x.best(h, 1, state)), may ? 0 : -2);
                Check.due("load", x.load(h, 1, state, 0), may ? x.fill(h, state) : -2);
                Check.due("mean", x.mean(h, 0, state, 0), may ? 0 : -2);
                Check.due("lose", x.lose(h, 0, state, 0), may ? 0 : -2);
                Check.due("waits", Math.min(0, x.waits(h, 1, state)), may ? 0 : -2);
                Check.due("once", Math.min(0, x.once(h, 1, state)), may ? 0 : -2);
                Check.due("dear", x.dear(h, 0, state - 1, 0), may ? 0 : -2);
                Check.due("chance", x.chance(h, 3, state, 0), may ? 0 : -2);
                Check.due("judge", x.judge(h, state, 1), may ? 0 : -2);
            }
            Check.due("space of none", x.space(h, 0), 0);
            Check.due("one short", x.space(h, -1), -2);
        }
    }

    // "A LOAD .. no more of each SORT than STANDS"
    private static void noMoreThanStands() {
        SendTheBox x = with("days 1;box 0 room 40;sort room 1 comes 0 hold 0 left 9;sort room 1 comes 0 hold 0 left 9");
        x.rule(0, 1, 0);
        for (int state = 0; state < 25; state++) {
            Check.due("best takes all", x.best(0, 1, state), state);
            Check.due("fill takes all", x.fill(0, state), state);
            Check.due("so does the rule", x.load(0, 1, state, 0), state);
        }
    }

    // "its ROOM .. no more than the box has"
    private static void noMoreRoomThanTheBox() {
        SendTheBox x = with("days 1;box 1 room 1;sort room 3 comes 0 hold 0 left 9");
        for (int room = 1; room <= 13; room++) {
            x.alter(0, 1, room);
            Check.due("best, room " + room, x.best(0, 1, 4), Math.min(4, room / 3));
            Check.due("fill, room " + room, x.fill(0, 4), Math.min(4, room / 3));
        }
        SendTheBox y = with("days 1;box 1 room 40;sort room 9 comes 0 hold 0 left 9;sort room 1 comes 0 hold 0 left 9");
        Check.due("36 and 4 are 40", y.best(0, 1, 24), 24);
        Check.due("fill, too", y.fill(0, 24), 24);
        y.alter(0, 1, 39);
        Check.due("one too much: the cheapest to leave, of like ones the least LOAD", y.best(0, 1, 24), 4 + 15);
        Check.due("fill leaves what has no room yet", y.fill(0, 24), 4 + 15);
    }

    // "its ROOM (of all parcels together)"
    private static void roomOfAllTogether() {
        SendTheBox x = with("days 1;box 1 room 9;sort room 2 comes 0 hold 0 left 9;sort room 3 comes 0 hold 0 left 9;"
            + "sort room 4 comes 0 hold 0 left 9");
        x.row(0, 0, 3);
        for (int i = 0; i < 3; i++) {
            x.set(0, i, 1);
        }
        for (int room = 8; room <= 10; room++) {
            x.alter(0, 1, room);
            Check.due("2 and 3 and 4 in " + room, x.best(0, 1, 31), room < 9 ? 6 : 31);
            Check.due("fill", x.fill(0, 31), room < 9 ? 6 : 31);
            Check.due("judge", x.judge(0, 31, 0), room < 9 ? 2 : 0);
        }
        Check.due("space of the three", x.space(0, 31), 9);
    }

    // "the ship is full with full quarters (0 to 3)"
    private static void fullQuarters() {
        SendTheBox x = with("days 1;box 8 room 9;sort room 9 comes 0 hold 1 left 39");
        x.rule(0, 1, 0);
        for (int full = 0; full <= 3; full++) {
            x.alter(0, 2, full);
            long want = 4 * ((4 - full) * 8 + full * 40);
            Check.due("cost, full " + full, x.cost(0, 1, 1), want);
            Check.due("mean, full " + full, x.mean(0, 1, 1, 0), want);
            Check.due("waits, full " + full, x.waits(0, 1, 1), 4 * (4 - full) * 32);
            Check.due("promise of nothing, full " + full, x.promise(0, 1), 0);
        }
    }

    // "if it isn't 0 the box costs"
    private static void theBoxCostsIfItIsNotNothing() {
        SendTheBox x = with("days 1;box 5 room 2;sort room 3 comes 0 hold 1");
        x.rule(0, 1, 0);
        Check.due("nothing stands: no box", x.mean(0, 1, 0, 0), 0);
        Check.due("nothing has room: no box", x.mean(0, 1, 4, 0), 4 * 16);
        x.alter(0, 1, 3);
        Check.due("one has: a box", x.mean(0, 1, 4, 0), (5 + 3) * 16);
        Check.due("one alone: a box, no hold", x.mean(0, 1, 1, 0), 5 * 16);
        Check.due("boxes: nothing ever stands", x.boxes(0, 0), 0);
    }

    // "What is left of each SORT costs hold for each parcel."
    private static void whatIsLeftCostsHold() {
        SendTheBox x = with("days 1;box 0 room 1;sort room 1 comes 0 hold 9;sort room 1 comes 0 hold 0");
        x.rule(0, 1, 99);
        x.rule(1, 1, 0);
        for (int n = 0; n <= 4; n++) {
            Check.due("of all that stand", x.mean(0, 1, n, 0), 9 * n * 64);
            Check.due("but what is sent", x.mean(0, 1, n, 1), 9 * Math.max(0, n - 1) * 64);
            Check.due("hold 0", x.mean(0, 1, 5 * n, 0), 0);
        }
        // What comes on the day doesn't cost hold on it.
        Check.due("not what comes", with("days 1;sort room 1 comes 4 hold 9").cost(0, 1, 0), 0);
        Check.due("but the day behind", with("days 2;box 99 room 1;sort room 1 comes 4 hold 9").cost(0, 2, 0), 9 * 256);
    }

    // "if 4 STAND, it doesn't, and costs refuse"
    private static void aFifthIsRefused() {
        SendTheBox x = with("days 1;box 99 room 1;sort room 1 comes 4 hold 0 refuse 7 left 1");
        long[] coins = {1, 2, 3, 4, 4 + 7};
        x.rule(0, 1, 99);
        for (int n = 0; n <= 4; n++) {
            Check.due("cost of " + n, x.cost(0, 1, n), coins[n] * 16);
            Check.due("mean of " + n, x.mean(0, 1, n, 0), coins[n] * 16);
        }
        x.alter(0, 0, 0);
        // One goes, so the one that comes has a place.
        Check.due("what is sent makes place", x.cost(0, 1, 4), 4 * 16);
        x.alter(0, 2, 1);
        Check.due("if the ship isn't full", x.cost(0, 1, 4), (3 * 4 + 11) * 4);
        SendTheBox y = with("days 6;box 99 room 1;sort room 9 comes 4 hold 0 refuse 1;" + SORT);
        y.rule(0, 1, 0);
        Check.due("four come, two are refused", y.mean(0, 6, 0, 0) - y.held(0, 1, 0) - 99 * y.boxes(0, 0), 2 * y.scale(0, 6));
        long[] stand = {0, 1, 2, 3, 4, 4, 4};
        for (int left = 0; left <= 6; left++) {
            long sure = 0;
            for (int one = 0; one <= 4; one++) {
                sure += y.chance(0, left, (int) stand[6 - left] + 5 * one, 0);
            }
            Check.due("sure to stand with " + left, sure, 1L << (6 * (6 - left)));
        }
    }

    // "a parcel comes with comes quarters (0 to 4)"
    private static void comesQuarters() {
        SendTheBox x = with("days 1;box 99 room 1;sort room 1 comes 0 hold 0 refuse 20 left 8");
        x.rule(0, 1, 99);
        for (int comes = 0; comes <= 4; comes++) {
            x.change(0, 0, 0, comes);
            Check.due("cost, comes " + comes, x.cost(0, 1, 0), 4 * comes * 8);
            Check.due("cost, comes " + comes, x.cost(0, 1, 4), 4 * (4 * 32 + comes * 20));
            Check.due("chance of none", x.chance(0, 0, 0, 0), 4 * (4 - comes));
            Check.due("chance of one", x.chance(0, 0, 1, 0), 4 * comes);
            Check.due("reach", x.reach(0, 0, 0), comes == 0 || comes == 4 ? 1 : 2);
        }
    }

    // "With no DAYS left each parcel that STANDS costs left."
    private static void noDaysLeft() {
        SendTheBox x = with("days 2;box 0 room 40;sort room 1 comes 4 hold 9 refuse 50 left 7;" + SORT + ";" + SORT + " left 99");
        x.rule(0, 1, 0);
        for (int state = 0; state < 125; state += 31) {
            long want = x.of(state, 0) * 7 + x.of(state, 2) * 99;
            Check.due("cost", x.cost(0, 0, state), want);
            Check.due("mean", x.mean(0, 0, state, 0), want);
            Check.due("lose", x.lose(0, 0, state, 0), 0);
        }
        Check.due("dear", x.dear(0, 0, 3, 0), 7);
        Check.due("dear of no left", x.dear(0, 0, 3, 1), 0);
        Check.due("dear", x.dear(0, 0, 99, 2), 99);
        Check.due("scale", x.scale(0, 0), 1);
        Check.due("best: no LOAD then", x.best(0, 0, 0), -2);
        Check.due("load: no LOAD then", x.load(0, 0, 0, 0), -2);
        Check.due("waits", x.waits(0, 0, 0), -2);
        Check.due("once", x.once(0, 0, 0), -2);
        Check.due("promise", x.promise(0, 0), -2);
        Check.due("shape", x.shape(0, 0), -2);
        Check.due("odd", x.odd(0, 0), -2);
    }

    // "d DAYS (0 to days) left"; "SCALE: 4 to the power of d times (1 and the number of SORTS)"
    private static void noneToAllDays() {
        for (int days = 1; days <= 6; days++) {
            String text = "days " + days;
            for (int sorts = 1; sorts <= 3; sorts++) {
                text += ";" + SORT;
                SendTheBox x = with(text);
                x.rule(0, 4, 0);
                for (int left = 0; left <= days; left++) {
                    Check.due("scale", x.scale(0, left), 1L << 2 * left * (1 + sorts));
                    Check.due("mean is cost", x.mean(0, left, 0, 0), x.cost(0, left, 0));
                    Check.due("chance", x.chance(0, left, 0, 0) > 0 ? 1 : 0, 1);
                    Check.due("best", x.best(0, left, 0), left == 0 ? -2 : 0);
                    Check.due("load", x.load(0, left, 0, 0), left == 0 ? -2 : 0);
                    Check.due("waits", x.waits(0, left, 0), left == 0 ? -2 : 0);
                    Check.due("once", x.once(0, left, 0), left == 0 ? -2 : 0);
                }
                Check.due("sure with all", x.chance(0, days, 0, 0), 1);
                for (int left : new int[] {-1, days + 1}) {
                    Check.due("scale", x.scale(0, left), -2);
                    Check.due("cost", x.cost(0, left, 0), -2);
                    Check.due("mean", x.mean(0, left, 0, 0), -2);
                    Check.due("lose", x.lose(0, left, 0, 0), -2);
                    Check.due("chance", x.chance(0, left, 0, 0), -2);
                    Check.due("reach", x.reach(0, left, 0), -2);
                    Check.due("dear", x.dear(0, left, 0, 0), -2);
                    Check.due("best", x.best(0, left, 0), -2);
                    Check.due("promise", x.promise(0, left), -2);
                    Check.due("shape", x.shape(0, left), -2);
                    Check.due("odd", x.odd(0, left), -2);
                }
            }
        }
    }

    // "the LOAD by which it is so, of several the least as a STATE"
    private static void ofSeveralTheLeast() {
        SendTheBox x = with("days 1;box 4 room 2;sort room 2 comes 0 hold 0 left 4;sort room 2 comes 0 hold 0 left 4");
        Check.due("as dear as nothing: nothing", x.best(0, 1, 6), 0);
        x.alter(0, 0, 3);
        Check.due("cheaper by one: the lesser of two", x.best(0, 1, 6), 1);
        x.change(0, 1, 3, 5);
        Check.due("the other is cheaper by one", x.best(0, 1, 6), 5);
        x.alter(0, 0, 5);
        Check.due("nothing again", x.best(0, 1, 6), 0);
        x.alter(0, 0, 0);
        x.change(0, 0, 3, 0);
        x.change(0, 1, 3, 0);
        Check.due("all alike", x.best(0, 1, 24), 0);
        x.alter(0, 1, 40);
        x.change(0, 1, 1, 1);
        Check.due("those that cost nothing stay", x.best(0, 1, 24), 20);
    }

    // "FILL .. by hold, the greatest first (of like ones by number)"
    private static void fillGreatestHoldFirst() {
        SendTheBox x = with("box 1 room 1;sort room 1 comes 1 hold 0;sort room 1 comes 1 hold 0;sort room 1 comes 1 hold 0");
        int[] ones = {1, 5, 25};
        for (int a = 0; a <= 9; a += 3) {
            for (int b = 0; b <= 9; b += 3) {
                for (int c = 0; c <= 9; c += 3) {
                    x.change(0, 0, 1, a);
                    x.change(0, 1, 1, b);
                    x.change(0, 2, 1, c);
                    int first = a >= b && a >= c ? 0 : b >= c ? 1 : 2;
                    Check.due("holds " + a + " " + b + " " + c, x.fill(0, 124), ones[first]);
                    int second = first == 0 ? b >= c ? 1 : 2 : first == 1 ? a >= c ? 0 : 2 : a >= b ? 0 : 1;
                    Check.due("where the first isn't", x.fill(0, 124 - 4 * ones[first]), ones[second]);
                }
            }
        }
    }

    // "each as many as STAND and have room yet"
    private static void fillAsManyAsHaveRoom() {
        SendTheBox x = with("box 1 room 1;sort room 4 comes 1 hold 2;sort room 3 comes 1 hold 1");
        // Of 2 of sort 0 and 2 of sort 1: how many of each have room.
        int[][] want = {{3, 0, 1}, {4, 1, 0}, {6, 1, 0}, {7, 1, 1}, {8, 2, 0}, {10, 2, 0}, {11, 2, 1}, {13, 2, 1}, {14, 2, 2},
            {15, 2, 2}, {2, 0, 0}};
        for (int[] w : want) {
            x.alter(0, 1, w[0]);
            Check.due("fill of room " + w[0], x.fill(0, 12), w[1] + 5 * w[2]);
        }
    }

    /** alter(), change(): what is answered then is by the house as it is now. */
    private static void aHouseAsItIsNow() {
        SendTheBox x = with("days 2;box 5 room 1;sort room 1 comes 4 hold 0 left 9");
        x.rule(0, 1, 1);
        long far = x.cost(0, 2, 0);
        Check.due("cost", far, (5 + 9) * 256);
        x.alter(0, 0, 6);
        Check.due("a dearer box", x.cost(0, 2, 0), (6 + 9) * 256);
        Check.due("by the rule, too", x.mean(0, 2, 0, 0), (6 + 9) * 256);
        x.change(0, 0, 3, 5);
        Check.due("less to leave", x.cost(0, 2, 0), 10 * 256);
        Check.due("more by the rule", x.lose(0, 2, 0, 0), 256);
        x.change(0, 0, 0, 0);
        Check.due("none comes", x.cost(0, 2, 0), 0);
        x.change(0, 0, 0, 4);
        x.change(0, 0, 3, 9);
        x.alter(0, 0, 5);
        Check.due("as at first", x.cost(0, 2, 0), far);
        x.change(0, 0, 3, 9);
        Check.due("the same again", x.cost(0, 2, 0), far);
    }

    private static void oneDayHouse() {
        SendTheBox x = with("days 1;sort room 1 comes 4 hold 1 left 2");
        x.rule(0, 4, 0);
        Check.due("cost", x.cost(0, 1, 0), 2 * 16);
        Check.due("two days", x.cost(0, 2, 0), -2);
        Check.due("shape", x.shape(0, 1), -1);
        Check.due("odd", x.odd(0, 1), -1);
        Check.due("promise", x.promise(0, 1), 0);
        Check.due("begin", x.begin(0, 0), 1);
        Check.due("step", x.step(6), 2);
        Check.due("held", x.held(0, 0, 0), 0);
        Check.due("boxes", x.boxes(0, 0), 0);
        Check.due("reach", x.reach(0, 1, 0), 1);
        Check.due("reach", x.reach(0, 0, 0), 1);
        Check.due("plain", x.plain(0), 0);
        Check.due("every", x.every(0), 1);
    }
}
