/** Promises 41 to 48: draws, weeks, the image, status. */
public final class WeeksTest {
    private static int seed;

    public static void main(String[] args) {
        seeds();
        sureWeek();
        drawnWeek();
        asItWas();
        manyWeeks();
        refusals();
        images();
        keptWeek();
        status();
        Check.finish();
    }

    private static int draw() {
        seed = seed * 1103515245 + 12345;
        return (seed >>> 16) % 4;
    }

    private static void seeds() {
        SendTheBox x = new SendTheBox();
        Check.due("seed", x.seed(77), 1);
        Check.due("seed", x.seed(-5), 77);
        Check.due("status(2)", x.status(2), -5);
        Check.due("seed", x.seed(Integer.MIN_VALUE), -5);
        Check.due("seed", x.seed(0), Integer.MIN_VALUE);
    }

    private static void sureWeek() {
        SendTheBox x = new SendTheBox();
        Check.house(x, "days 6;box 5 room 4;sort room 9 comes 4 hold 1 refuse 7 left 4;sort room 2 comes 0 hold 2");
        x.rule(0, 1, 1);
        Check.due("begin", x.begin(0, 0), 6);
        Check.due("days left", x.week(0), 6);
        Check.due("state", x.week(1), 0);
        Check.due("coins", x.week(2), 0);
        // Nothing ever fits the box: 0, 1, 2, 3 are held, then 4, and one is refused.
        Check.due("three days", x.step(3), 3);
        Check.due("three draws a day", x.status(2), seedAfter(1, 9));
        Check.due("days left", x.week(0), 3);
        Check.due("state", x.week(1), 3);
        Check.due("a day", x.step(1), 3);
        Check.due("a day", x.step(1), 4 + 7);
        Check.due("the last, left too", x.step(6), 4 + 7 + 16);
        int[] want = {0, 4, 44, 0, 0, 2};
        for (int what = 0; what <= 5; what++) {
            Check.due("week(" + what + ")", x.week(what), want[what]);
        }
        Check.due("none is left", x.step(1), -5);
        x.change(0, 0, 0, 4);
        x.alter(0, 1, 40);
        Check.due("another", x.begin(0, 0), 6);
        Check.due("all days", x.step(6), 5 * 5 + 4);
        int[] sent = {0, 1, 29, 5, 5, 0};
        for (int what = 0; what <= 5; what++) {
            Check.due("week(" + what + ")", x.week(what), sent[what]);
        }
    }

    private static int seedAfter(int from, int draws) {
        seed = from;
        for (int i = 0; i < draws; i++) {
            draw();
        }
        return seed;
    }

    private static void drawnWeek() {
        SendTheBox x = new SendTheBox();
        Check.house(x, "days 6;full 2;box 3 room 4;sort room 2 comes 3 hold 1 refuse 7 left 4;sort room 1 comes 2 hold 2 left 3");
        x.rule(0, 1, 3);
        for (int start = -40; start < 40; start++) {
            x.seed(start);
            seed = start;
            x.begin(0, 0);
            int[] stands = new int[2];
            int coins = 0;
            int boxes = 0;
            int parcels = 0;
            int refused = 0;
            for (int left = 6; left > 0; left--) {
                boolean full = draw() < 2;
                if (!full && 2 * stands[0] + stands[1] >= 3) {
                    int b = Math.min(stands[1], 4);
                    int a = Math.min(stands[0], (4 - b) / 2);
                    stands[0] -= a;
                    stands[1] -= b;
                    parcels += a + b;
                    boxes++;
                    coins += 3;
                }
                coins += stands[0] + 2 * stands[1];
                for (int sort = 0; sort < 2; sort++) {
                    if (draw() < 3 - sort) {
                        if (stands[sort] < 4) {
                            stands[sort]++;
                        } else {
                            refused++;
                            coins += sort == 0 ? 7 : 0;
                        }
                    }
                }
                if (left == 1) {
                    coins += 4 * stands[0] + 3 * stands[1];
                }
                x.step(1);
                Check.due("state", x.week(1), stands[0] + 5 * stands[1]);
                Check.due("coins", x.week(2), coins);
            }
            Check.due("boxes", x.week(3), boxes);
            Check.due("parcels", x.week(4), parcels);
            Check.due("refused", x.week(5), refused);
            Check.due("seed", x.status(2), seed);
        }
    }

    /** A week goes by its house and its rule as they were when it began. */
    private static void asItWas() {
        SendTheBox x = new SendTheBox();
        Check.house(x, "days 3;box 5 room 9;sort room 1 comes 4 hold 1 left 4");
        x.rule(0, 4, 0);
        x.begin(0, 0);
        x.alter(0, 0, 99);
        x.change(0, 0, 2, 99);
        x.rule(0, 1, 99);
        x.row(0, 0, 1);
        Check.due("by what was best", x.step(6), 1 + 5 + 4);
        x.rule(0, 4, 0);
        x.begin(0, 0);
        x.step(2);
        x.begin(0, 0);
        Check.due("the other is given up", x.week(0), 3);
        Check.due("the other is given up", x.week(2), 0);
    }

    private static void manyWeeks() {
        SendTheBox x = new SendTheBox();
        Check.house(x, "days 4;full 1;box 3 room 4;sort room 2 comes 3 hold 1 refuse 7 left 4;sort room 1 comes 2 hold 2 left 3");
        x.rule(0, 1, 3);
        x.rule(1, 4, 0);
        x.begin(0, 0);
        x.step(2);
        int coinsBefore = x.week(2);
        for (int s = 0; s <= 1; s++) {
            x.seed(9);
            int sum = 0;
            x.image();
            for (int i = 0; i < 50; i++) {
                x.begin(0, s);
                sum += x.step(6);
            }
            int end = x.status(2);
            x.back();
            Check.due("weeks", x.weeks(0, s, 50), sum);
            Check.due("it draws", x.status(2), end);
            Check.due("the week under way stays", x.week(0), 2);
            Check.due("the week under way stays", x.week(2), coinsBefore);
        }
        Check.due("one week", x.weeks(0, 0, 1) > 0 ? 1 : 0, 1);
    }

    private static void refusals() {
        SendTheBox x = new SendTheBox();
        Check.due("step: none is under way", x.step(1), -5);
        Check.due("step: bad ahead", x.step(0), -2);
        Check.due("step: bad ahead", x.step(7), -2);
        Check.due("week: none is under way", x.week(0), -5);
        Check.due("week: bad ahead", x.week(-1), -2);
        Check.due("week: bad ahead", x.week(6), -2);
        Check.house(x, "sort room 1 comes 1 hold 1");
        x.row(0, 0, 1);
        x.rule(2, 1, 1);
        Check.due("begin: a row", x.begin(0, 0), -3);
        Check.due("begin: nothing", x.begin(0, 1), -4);
        Check.due("begin: bad shelf", x.begin(0, 8), -2);
        Check.due("begin: bad house ahead", x.begin(1, 0), -2);
        Check.due("weeks: a row", x.weeks(0, 0, 1), -3);
        Check.due("weeks: nothing", x.weeks(0, 1, 1), -4);
        Check.due("weeks: bad shelf", x.weeks(0, -1, 1), -2);
        Check.due("weeks: bad house ahead", x.weeks(1, 0, 1), -2);
        Check.due("weeks: bad n ahead", x.weeks(0, 0, 0), -2);
        Check.due("weeks: bad n", x.weeks(0, 2, 51), -2);
        Check.due("nothing is drawn", x.status(2), 1);
        Check.due("none is under way yet", x.week(1), -5);
        Check.due("BAD", x.status(12), 10);
        Check.due("OTHER", x.status(13), 2);
        Check.due("NOTHING", x.status(14), 2);
        Check.due("STUCK", x.status(15), 3);
    }

    private static void images() {
        SendTheBox x = new SendTheBox();
        Check.due("nothing was kept", x.back(), -5);
        Check.house(x, "days 4;full 1;box 3 room 9;sort room 1 comes 2 hold 1 left 4");
        x.rule(0, 4, 0);
        x.seed(12);
        x.begin(0, 0);
        x.step(1);
        Check.due("image", x.image(), 1);
        long cost = x.cost(0, 4, 0);
        int coins = x.step(6);
        int end = x.status(2);
        Check.house(x, "sort room 1 comes 2 hold 1");
        x.alter(0, 0, 60);
        x.change(0, 0, 1, 9);
        x.rule(0, 1, 99);
        x.row(5, 0, 1);
        x.feed(0, 3);
        x.set(7, 0, 0);
        for (int i = 0; i < 2; i++) {
            x.begin(0, 0);
            x.seed(99);
            Check.due("back", x.back(), 1);
            Check.due("HOUSES", x.status(0), 1);
            Check.due("box", x.houseOf(0, 1), 3);
            Check.due("cost", x.cost(0, 4, 0), cost);
            Check.due("days left", x.week(0), 3);
            Check.due("the same days again", x.step(6), coins);
            Check.due("the same draws again", x.status(2), end);
        }
        Check.due("the tape stays", x.status(1), 3);
        Check.due("shelves stay", x.holds(0), 11);
        Check.due("shelves stay", x.holds(5), 0);
        Check.due("status() stays", x.status(14), 1);
        Check.due("status() stays", x.status(15), 1);
        SendTheBox y = new SendTheBox();
        y.image();
        Check.house(y, "sort room 1 comes 2 hold 1");
        y.rule(0, 4, 0);
        y.begin(0, 0);
        y.back();
        Check.due("no house", y.status(0), 0);
        Check.due("no week", y.week(0), -5);
        Check.due("a house again", Check.house(y, "days 1;sort room 1 comes 2 hold 1"), 0);
        Check.due("the new one", y.houseOf(0, 0), 1);
    }

    private static void keptWeek() {
        SendTheBox x = new SendTheBox();
        Check.house(x, "days 6;box 3 room 1;sort room 9 comes 4 hold 1 refuse 2;sort room 1 comes 4 hold 0");
        Check.house(x, "days 1;sort room 1 comes 0 hold 0");
        x.rule(0, 1, 0);
        x.begin(0, 0);
        Check.due("five days", x.step(5), 0 + 4 + 5 + 6 + 7 + 2);
        x.image();
        x.rule(0, 1, 99);
        x.begin(1, 0);
        x.step(1);
        x.back();
        int[] want = {1, 4 + 5, 24, 4, 4, 1};
        for (int what = 0; what <= 5; what++) {
            Check.due("kept week(" + what + ")", x.week(what), want[what]);
        }
        Check.due("by its house and rule", x.step(1), 3 + 4 + 2);
        x.back();
        Check.due("and again", x.step(1), 3 + 4 + 2);
    }

    private static void status() {
        SendTheBox x = new SendTheBox();
        x.feed(0, 3);
        x.row(0, 0, 0);
        x.row(7, 0, 0);
        x.rule(7, 4, 0);
        x.seed(8);
        Check.due("HOUSES", x.status(0), 0);
        Check.due("THE TAPE", x.status(1), 3);
        Check.due("SEED", x.status(2), 8);
        Check.due("SHELVES", x.status(3), 2);
        for (int what : new int[] {-1, 4, 11, 17, Integer.MAX_VALUE, Integer.MIN_VALUE}) {
            Check.due("another what", x.status(what), -1);
        }
        x.set(9, 0, 0);
        x.set(7, 0, 0);
        x.set(7, 0, 0);
        for (int i = 0; i < 3; i++) {
            x.set(1, 0, 0);
        }
        for (int i = 0; i < 4; i++) {
            x.back();
        }
        for (int i = 0; i < 45; i++) {
            x.feed(0, 4);
        }
        Check.due("BAD", x.status(12), 1);
        Check.due("OTHER", x.status(13), 2);
        Check.due("NOTHING", x.status(14), 3);
        Check.due("STUCK", x.status(15), 4);
        Check.due("FULL", x.status(16), 6);
    }
}
