/** Promises 22 to 25 and 29 to 34: what rules do and cost, by hand. */
public final class RulesTest {
    private static final String SURE = "days 3;box 5 room 4;sort room 2 comes 4 hold 1 refuse 7 left 4";

    public static void main(String[] args) {
        loads();
        sureMeans();
        drawnMeans();
        boys();
        chances();
        heldAndBoxes();
        plainAndEvery();
        refusals();
        Check.finish();
    }

    private static void loads() {
        SendTheBox x = new SendTheBox();
        Check.house(x, SURE);
        x.rule(0, 1, 4);
        x.rule(1, 2, 2);
        x.rule(2, 3, 62);
        x.rule(3, 4, 0);
        x.row(7, 0, 4);
        x.set(7, 1, -1);
        x.rule(4, 5, 7);
        x.rule(5, 1, 0);
        x.rule(6, 2, 1);
        // Of each rule: the loads of states 0 to 4 with one day left, then with two.
        int[][][] want = {{{0, 0, 2, 2, 2}, {0, 0, 2, 2, 2}}, {{0, 0, 0, 0, 0}, {0, 1, 2, 2, 2}},
            {{0, 0, 0, 2, 2}, {0, 1, 2, 2, 2}}, {{0, 0, 2, 2, 2}, {0, 0, 2, 2, 2}}, {{0, 1, 0, 0, 0}, {0, 1, 0, 0, 0}},
            {{0, 1, 2, 2, 2}, {0, 1, 2, 2, 2}}, {{0, 1, 2, 2, 2}, {0, 1, 2, 2, 2}}};
        for (int s = 0; s <= 6; s++) {
            for (int left = 1; left <= 2; left++) {
                for (int state = 0; state <= 4; state++) {
                    Check.due("load " + left + " " + state + " " + s, x.load(0, left, state, s), want[s][left - 1][state]);
                }
            }
        }
        x.rule(0, 2, 3);
        Check.due("3 modulo 3", x.load(0, 3, 1, 0), 1);
        Check.due("2 modulo 3", x.load(0, 2, 1, 0), 0);
        Check.due("1 modulo 3", x.load(0, 1, 1, 0), 0);
    }

    private static void sureMeans() {
        SendTheBox x = new SendTheBox();
        Check.house(x, SURE);
        x.rule(0, 1, 99);
        x.rule(1, 1, 1);
        x.rule(2, 2, 2);
        x.rule(3, 4, 0);
        Check.due("no days left", x.mean(0, 0, 3, 0), 12);
        Check.due("never", x.mean(0, 1, 4, 0), 27 * 16);
        // Three days from nothing on, never sent: hold 0, 1, 2; 3 left.
        Check.due("never", x.mean(0, 3, 0, 0), 15 * 4096);
        // Always sent: boxes on two days, 1 left.
        Check.due("always", x.mean(0, 3, 0, 1), 14 * 4096);
        // Sent with two left: 1 parcel; then 1 is held and 2 are left.
        Check.due("on a day", x.mean(0, 3, 0, 2), (5 + 1 + 8) * 4096);
        // Best: 1 held, then 2 sent, 1 left.
        Check.due("best", x.mean(0, 3, 0, 3), (1 + 5 + 4) * 4096);
        Check.due("best of one day", x.mean(0, 1, 2, 3), 9 * 16);
        long[] lost = {5, 4, 4, 0};
        for (int s = 0; s <= 3; s++) {
            Check.due("lose", x.lose(0, 3, 0, s), lost[s] * 4096);
        }
        Check.due("lose of one day", x.lose(0, 1, 4, 0), 8 * 16);
        Check.due("lose with none left", x.lose(0, 0, 4, 0), 0);
    }

    private static void drawnMeans() {
        SendTheBox x = new SendTheBox();
        Check.house(x, "days 1;full 2;box 8 room 4;sort room 2 comes 1 hold 1 left 4");
        x.rule(0, 1, 1);
        // Two stand: half of the time sent for 8, else held for 2 and left for 8; and a quarter of a parcel left.
        Check.due("mean", x.mean(0, 1, 2, 0), 16 * 8 / 2 + 16 * 10 / 2 + 16);
    }

    private static void boys() {
        SendTheBox x = new SendTheBox();
        Check.house(x, SURE);
        Check.due("no rule", x.boy(0), -5);
        x.row(0, 0, 5);
        Check.due("a row is none", x.boy(0), -5);
        Check.due("STUCK", x.status(15), 2);
        x.rule(1, 1, 99);
        Check.due("the only one", x.boy(0), 1);
        x.rule(5, 1, 1);
        Check.due("the better", x.boy(0), 5);
        x.rule(3, 2, 2);
        Check.due("of like ones the first", x.boy(0), 3);
        x.rule(7, 4, 0);
        Check.due("best", x.boy(0), 7);
        x.rule(6, 1, 4);
        Check.due("as good as best", x.boy(0), 6);
        x.rule(0, 4, 0);
        Check.due("the first shelf, too", x.boy(0), 0);
        Check.due("bad house", x.boy(1), -2);
    }

    private static void chances() {
        SendTheBox x = new SendTheBox();
        Check.house(x, "days 2;full 1;box 5 room 4;sort room 2 comes 1 hold 1 refuse 7 left 4");
        x.rule(0, 1, 1);
        x.rule(1, 1, 99);
        Check.due("sure at first", x.chance(0, 2, 0, 0), 1);
        Check.due("sure at first", x.chance(0, 2, 1, 0), 0);
        Check.due("a day later", x.chance(0, 1, 0, 0), 12);
        Check.due("a day later", x.chance(0, 1, 1, 0), 4);
        // From 1 (4 of 16): sent in three quarters; a parcel in one quarter.
        Check.due("two days later", x.chance(0, 0, 0, 0), 12 * 12 + 4 * 9);
        Check.due("two days later", x.chance(0, 0, 1, 0), 12 * 4 + 4 * (3 + 3));
        Check.due("two days later", x.chance(0, 0, 2, 0), 4);
        Check.due("not to be come to", x.chance(0, 0, 3, 0), 0);
        Check.due("never sent", x.chance(0, 0, 0, 1), 12 * 12);
        Check.due("never sent", x.chance(0, 0, 1, 1), 12 * 4 + 4 * 12);
        Check.due("never sent", x.chance(0, 0, 2, 1), 4 * 4);
        int[] reached = {3, 2, 1};
        for (int left = 0; left <= 2; left++) {
            Check.due("reach", x.reach(0, left, 0), reached[left]);
        }
        x.alter(0, 2, 0);
        Check.due("never full: 2 can't be come to", x.reach(0, 0, 0), 2);
        x.change(0, 0, 0, 4);
        Check.due("surely 1", x.reach(0, 0, 0), 1);
        Check.due("surely 2", x.chance(0, 0, 2, 1), 256);
        Check.house(x, "days 6;sort room 9 comes 4 hold 1");
        Check.due("4 stand at most", x.chance(1, 0, 4, 1), 1L << 24);
        Check.house(x, "days 6;sort room 9 comes 4 hold 1;sort room 9 comes 4 hold 1;sort room 9 comes 4 hold 1");
        Check.due("the greatest chance", x.chance(2, 0, 124, 1), 1L << 48);
    }

    private static void heldAndBoxes() {
        SendTheBox x = new SendTheBox();
        Check.house(x, SURE);
        x.rule(0, 1, 99);
        x.rule(1, 1, 1);
        x.rule(2, 4, 0);
        Check.due("held: never sent", x.held(0, 0, 0), 3 * 4096);
        Check.due("held: always sent", x.held(0, 0, 1), 0);
        Check.due("held: best", x.held(0, 0, 2), 4096);
        Check.due("boxes: never sent", x.boxes(0, 0), 0);
        Check.due("boxes: always sent", x.boxes(0, 1), 2 * 4096);
        Check.due("boxes: best", x.boxes(0, 2), 4096);
        x.alter(0, 2, 1);
        // With two left 1 stands, with one left 1, or 2 in a quarter: a box in three quarters each.
        Check.due("boxes: full at times", x.boxes(0, 1), 2 * 3 * 1024);
        Check.due("held: full at times", x.held(0, 0, 1), 1024 + 3 * 256 + 2 * 256);
        Check.house(x, "days 2;box 9 room 9;sort room 1 comes 4 hold 3;sort room 2 comes 1 hold 2");
        Check.due("held: each sort for itself", x.held(1, 0, 0), 4096);
        Check.due("held: each sort for itself", x.held(1, 1, 0), 1024);
    }

    private static void plainAndEvery() {
        SendTheBox x = new SendTheBox();
        Check.house(x, SURE);
        // Of 3 and 4, which say the same, the least; 0 to 2 send always.
        Check.due("plain", x.plain(0), 3);
        // By 1 and by 2 it costs 14, by 3 (when nothing stands yet) and more 15.
        Check.due("every", x.every(0), 1);
        x.alter(0, 0, 0);
        Check.due("plain: a box for nothing", x.plain(0), 0);
        x.alter(0, 0, 99);
        Check.due("plain: never", x.plain(0), 5);
        Check.due("every: never in time", x.every(0), 3);
        x.change(0, 0, 0, 0);
        Check.due("plain: all alike", x.plain(0), 0);
        Check.due("every: all alike", x.every(0), 1);
        SendTheBox y = new SendTheBox();
        Check.house(y, "days 6;box 99 room 9;sort room 9 comes 4 hold 1");
        Check.due("every: 6 is never, as nothing stands yet", y.every(0), 6);
        Check.due("plain: never", y.plain(0), 37);
        Check.due("plain: no such house", x.plain(1), -2);
        Check.due("every: no such house", x.every(1), -2);
        Check.due("plain: no such house", x.plain(-1), -2);
        Check.due("every: no such house", x.every(-1), -2);
    }

    private static void refusals() {
        SendTheBox x = new SendTheBox();
        Check.house(x, SURE);
        x.row(0, 0, 1);
        int[] lack = {0, 1};
        for (int s : lack) {
            long want = s == 0 ? -3 : -4;
            Check.due("load", x.load(0, 1, 0, s), want);
            Check.due("mean", x.mean(0, 1, 0, s), want);
            Check.due("lose", x.lose(0, 1, 0, s), want);
            Check.due("chance", x.chance(0, 1, 0, s), want);
            Check.due("reach", x.reach(0, 1, s), want);
            Check.due("held", x.held(0, 0, s), want);
            Check.due("boxes", x.boxes(0, s), want);
        }
        Check.due("OTHER", x.status(13), 7);
        Check.due("NOTHING", x.status(14), 7);
        int[][] bad = {{1, 1, 0, 0}, {-1, 1, 0, 0}, {0, 4, 0, 1}, {0, -1, 0, 1}, {0, 1, 5, 0}, {0, 1, -1, 0}, {0, 1, 0, 8},
            {0, 1, 0, -1}};
        for (int[] b : bad) {
            Check.due("load", x.load(b[0], b[1], b[2], b[3]), -2);
            Check.due("mean", x.mean(b[0], b[1], b[2], b[3]), -2);
            Check.due("lose", x.lose(b[0], b[1], b[2], b[3]), -2);
            Check.due("chance", x.chance(b[0], b[1], b[2], b[3]), -2);
        }
        Check.due("BAD", x.status(12), 4 * bad.length);
        Check.due("load: no day left", x.load(0, 0, 0, 0), -2);
        int[][] more = {{1, 0, 0}, {0, 4, 0}, {0, -1, 0}, {0, 0, 8}, {0, 0, -1}};
        for (int[] b : more) {
            Check.due("reach", x.reach(b[0], b[1], b[2]), -2);
        }
        int[][] most = {{1, 0, 0}, {0, 1, 0}, {0, -1, 0}, {0, 0, 8}, {0, 0, -1}};
        for (int[] b : most) {
            Check.due("held", x.held(b[0], b[1], b[2]), -2);
        }
        Check.due("boxes", x.boxes(1, 0), -2);
        Check.due("boxes", x.boxes(0, 8), -2);
        Check.due("boxes", x.boxes(0, -1), -2);
    }
}
