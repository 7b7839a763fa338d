/** "3. WHAT IS MADE OF IT" and promises 25 to 48: each sentence that names a boundary, at it and beside it. */
public final class MadeEdgesTest {
    private static final String SORT = "sort room 1 comes 1 hold 1";

    // Of a seed: what six draws below 4 answer, and the seed then. Worked out apart from this program.
    private static final int[][] DRAWS = {{1, 2, 2, 1, 3, 3, 3, -1778682749}, {0, 0, 0, 0, 1, 2, 3, -1038148470},
        {-1, 1, 1, 2, 2, 1, 2, -297614191}, {Integer.MAX_VALUE, 1, 1, 2, 2, 1, 2, 1849869457},
        {Integer.MIN_VALUE, 0, 0, 0, 1, 2, 3, 1109335178}, {7, 0, 2, 0, 2, 3, 1, -1926921127}};

    public static void main(String[] args) {
        theLeastBar();
        aBarByDays();
        noBar();
        theLeastOddState();
        theLeastShelf();
        theLeastRules();
        oneParcelMore();
        nothingOrFillOnThisDay();
        promisesOfEachDay();
        chancesOfAllDays();
        heldAndBoxes();
        judged();
        whatCanBeJoined();
        whatIsJoined();
        savedZeroAtLeast();
        drawsThatWrap();
        drawsBelow();
        aWeekAtFirst();
        daysTillNoneIsLeft();
        theLastDaysEnd();
        oneToFiftyWeeks();
        anotherIsGivenUp();
        otherDaysAlone();
        imagesKeepAllBut();
        theLaterImage();
        statusOfAll();
        Check.finish();
    }

    private static SendTheBox with(String text) {
        SendTheBox x = new SendTheBox();
        Check.due("house of '" + text + "'", Check.house(x, text), 0);
        return x;
    }

    // "the least r from 0 on"; "NONE, if .. it never does"
    private static void theLeastBar() {
        SendTheBox x = with("days 1;box 1 room 40;sort room 4 comes 0 hold 0 left 9");
        // A box pays if more than its cost would be left: 9 for each parcel.
        int[][] bars = {{0, 1}, {1, 1}, {8, 1}, {9, 5}, {17, 5}, {18, 9}, {26, 9}, {27, 13}, {35, 13}, {36, -1}, {99, -1}};
        for (int[] b : bars) {
            x.alter(0, 0, b[0]);
            Check.due("shape, box " + b[0], x.shape(0, 1), b[1]);
            Check.due("odd, box " + b[0], x.odd(0, 1), -1);
        }
        x.alter(0, 0, 0);
        x.alter(0, 1, 3);
        Check.due("nothing has room: it never does", x.shape(0, 1), -1);
        x.alter(0, 1, 4);
        Check.due("one has", x.shape(0, 1), 1);
        // Sort 1 is never sent, and has room 4 at most: the least r is one more, though sort 0 has room 6 at least.
        SendTheBox y = with("days 1;box 1 room 40;sort room 6 comes 0 hold 0 left 9;sort room 1 comes 0 hold 0");
        Check.due("between the two", y.shape(0, 1), 5);
        Check.due("no odd STATE", y.odd(0, 1), -1);
    }

    // "with d DAYS left (1 at least)"
    private static void aBarByDays() {
        SendTheBox x = with("days 6;box 5 room 9;sort room 1 comes 0 hold 1");
        // A parcel that is sent saves a coin for each day left.
        int[] bars = {-2, -1, 3, 2, 2, 2, 1, -2};
        for (int left = 0; left <= 7; left++) {
            Check.due("shape with " + left, x.shape(0, left), bars[left]);
            Check.due("odd with " + left, x.odd(0, left), bars[left] == -2 ? -2 : -1);
        }
    }

    // "NONE, if there is none such"
    private static void noBar() {
        for (int room = 1; room <= 9; room++) {
            // Sort 0 alone is sent: 4 of sort 1 have room 4.
            SendTheBox x = with("days 1;box 1 room 40;sort room " + room + " comes 0 hold 0 left 9;sort room 1 comes 0 hold 0");
            Check.due("shape, room " + room, x.shape(0, 1), room <= 4 ? -1 : 5);
            Check.due("odd, room " + room, x.odd(0, 1), room <= 4 ? 5 * room : -1);
        }
    }

    // "ODD: the least STATE in which it isn't so, if r is the least ROOM of a STATE in which it puts something in"
    private static void theLeastOddState() {
        SendTheBox x = with("days 1;box 1 room 40;sort room 4 comes 0 hold 0;sort room 5 comes 0 hold 0 left 9");
        // 4 is less than the 5 of the least that is sent, 8 isn't.
        Check.due("two of sort 0", x.odd(0, 1), 2);
        SendTheBox y = with("days 1;box 1 room 40;sort room 5 comes 0 hold 0;sort room 5 comes 0 hold 0 left 9");
        Check.due("one of sort 0, of the same room", y.odd(0, 1), 1);
        y.change(0, 1, 3, 0);
        Check.due("it never puts something in", y.odd(0, 1), -1);
        y.change(0, 0, 3, 9);
        Check.due("one of sort 1", y.odd(0, 1), 5);
        y.change(0, 1, 3, 9);
        Check.due("none", y.odd(0, 1), -1);
        SendTheBox z = with("days 1;box 8 room 9;sort room 9 comes 0 hold 0 left 9;" + SORT + ";sort room 3 comes 0 hold 0");
        // Of sort 1 three, of sort 2 two: room 9, as one of sort 0.
        Check.due("of two sorts that stay", z.odd(0, 1), 65);
    }

    // boy: "of several the first"
    private static void theLeastShelf() {
        SendTheBox x = with("days 2;box 5 room 9;sort room 2 comes 4 hold 1 left 9");
        Check.due("no RULE", x.boy(0), -5);
        x.rule(7, 1, 99);
        Check.due("the last alone", x.boy(0), 7);
        x.rule(6, 1, 50);
        Check.due("of like ones the first", x.boy(0), 6);
        x.rule(0, 1, 99);
        Check.due("the first SHELF", x.boy(0), 0);
        x.rule(3, 1, 2);
        Check.due("a better one behind", x.boy(0), 3);
        x.rule(4, 4, 0);
        Check.due("no better than that", x.boy(0), 3);
        x.row(3, 0, 0);
        Check.due("a ROW is none", x.boy(0), 4);
    }

    // plain: "The a (0 to 99) .. of several the least", every: "The a (1 to 6) likewise"
    private static void theLeastRules() {
        SendTheBox x = with("days 6;box 99 room 9;sort room 9 comes 4 hold 0");
        Check.due("a above all there can be", x.plain(0), 37);
        x.change(0, 0, 0, 0);
        Check.due("nothing ever comes", x.plain(0), 0);
        Check.due("nothing ever comes", x.every(0), 1);
        SendTheBox y = with("days 6;box 99 room 1;sort room 9 comes 4 hold 0;sort room 9 comes 4 hold 0;sort room 6 comes 4 hold 0");
        Check.due("nothing ever fits: all alike", y.plain(0), 0);
        y.alter(0, 1, 40);
        Check.due("one past the ROOM of all", y.plain(0), 97);
        // ROOM 108 can stand, but no a past 99 can be: 91 to 99 fill at 99 and 108, the lesser ones more often.
        SendTheBox w = with("days 5;box 99 room 40;sort room 9 comes 4 hold 0;sort room 9 comes 4 hold 0;sort room 9 comes 3 hold 0");
        Check.due("no a past 99", w.plain(0), 91);
        for (int days = 1; days <= 6; days++) {
            // Sending costs 9 and saves nothing: best on the first day alone, when nothing stands yet.
            SendTheBox z = with("days " + days + ";box 9 room 40;sort room 1 comes 4 hold 0");
            Check.due("every, days " + days, z.every(0), days);
        }
    }

    private static void oneParcelMore() {
        SendTheBox x = with("days 2;box 99 room 1;sort room 9 comes 0 hold 2 left 3;sort room 9 comes 0 hold 0 left 5");
        for (int n = 0; n <= 4; n++) {
            Check.due("sort 0, none left", x.dear(0, 0, n, 0), n < 4 ? 3 : -2);
            Check.due("sort 0, two left", x.dear(0, 2, n + 20, 0), n < 4 ? 7 << 12 : -2);
            Check.due("sort 1, two left", x.dear(0, 2, 5 * n + 4, 1), n < 4 ? 5 << 12 : -2);
        }
        Check.due("no sort 2", x.dear(0, 2, 0, 2), -2);
    }

    private static void nothingOrFillOnThisDay() {
        SendTheBox x = with("days 3;box 5 room 2;sort room 1 comes 0 hold 1;sort room 3 comes 0 hold 9");
        Check.due("FILL is nothing: as if nothing is put in", x.once(0, 1, 5) - x.waits(0, 1, 5), 0);
        Check.due("BEST puts nothing in", x.waits(0, 1, 2), 0);
        Check.due("FILL does", x.once(0, 1, 2), 3 * 64);
        Check.due("BEST does what FILL does", x.once(0, 3, 2), 0);
        // Today's two coins of hold alone: the box goes tomorrow if then it still pays.
        Check.due("nothing on this DAY, three left", x.waits(0, 3, 2), 1 << 18);
        Check.due("nothing stands", x.waits(0, 3, 0) + x.once(0, 3, 0), 0);
        for (int full = 0; full <= 3; full++) {
            x.alter(0, 2, full);
            Check.due("FILL, full " + full, x.once(0, 1, 2), 3 * 16 * (4 - full));
        }
    }

    // promise: "(1 to days)", "something must be put in, if any LOAD is something (the ship not being full)"
    private static void promisesOfEachDay() {
        SendTheBox x = with("days 4;box 7 room 2;sort room 2 comes 4 hold 0");
        int[] want = {-2, 7, 7, 7, 0, -2};
        for (int left = 0; left <= 5; left++) {
            Check.due("promise " + left, x.promise(0, left), want[left] > 0 ? (long) want[left] << 16 : want[left]);
        }
        for (int full = 0; full <= 3; full++) {
            x.alter(0, 2, full);
            Check.due("full " + full, x.promise(0, 1), (4L - full) * 7 << 14);
        }
        x.alter(0, 2, 0);
        x.alter(0, 1, 1);
        for (int left = 1; left <= 4; left++) {
            Check.due("no LOAD is something", x.promise(0, left), 0);
        }
        // With one and two days left all 4 STAND, which BEST leaves there.
        SendTheBox y = with("days 6;box 99 room 40;sort room 1 comes 4 hold 0");
        for (int left = 1; left <= 6; left++) {
            Check.due("the greatest STATE, " + left, y.promise(0, left), left == 6 ? 0 : 99L << 24);
        }
        // What must be put in is what is best then: the parcel that would be left, not FILL's that costs hold.
        SendTheBox z = with("days 2;box 99 room 1;sort room 1 comes 4 hold 1;sort room 1 comes 4 hold 0 left 99");
        int[] box = {98, 99};
        for (int b : box) {
            z.alter(0, 0, b);
            Check.due("FILL", z.fill(0, 6), 1);
            Check.due("promise, box " + b, z.promise(0, 1), 0);
            Check.due("once, box " + b, z.once(0, 1, 6), 98 << 6);
        }
    }

    // chance: "with so many DAYS left (0 to days), from nothing with all days left on"; reach likewise
    private static void chancesOfAllDays() {
        SendTheBox x = with("days 6;full 1;box 5 room 3;sort room 2 comes 1 hold 1;sort room 1 comes 2 hold 2");
        x.rule(0, 1, 3);
        for (int left = 0; left <= 6; left++) {
            long sum = 0;
            int states = 0;
            for (int state = 0; state < 25; state++) {
                long chance = x.chance(0, left, state, 0);
                sum += chance;
                states += chance != 0 ? 1 : 0;
            }
            Check.due("all chances with " + left, sum, 1L << 6 * (6 - left));
            Check.due("reach with " + left, x.reach(0, left, 0), states);
        }
        Check.due("at first nothing stands", x.chance(0, 6, 0, 0), 1);
        Check.due("at first nothing else", x.reach(0, 6, 0), 1);
        Check.due("one short", x.chance(0, -1, 0, 0), -2);
        Check.due("one past", x.chance(0, 7, 0, 0), -2);
        Check.due("one short", x.reach(0, -1, 0), -2);
        Check.due("one past", x.reach(0, 7, 0), -2);
    }

    // held: "parcels .. that cost hold, all DAYS together"; boxes likewise
    private static void heldAndBoxes() {
        for (int days = 1; days <= 6; days++) {
            SendTheBox x = with("days " + days + ";box 5 room 1;sort room 1 comes 4 hold 0;sort room 1 comes 4 hold 3");
            x.rule(0, 1, 99);
            x.rule(1, 1, 0);
            x.rule(2, 2, days);
            x.rule(3, 2, 1);
            int[] sums = {0, 1, 3, 6, 10, 14};
            Check.due("0 to 4 stand, none is sent", x.held(0, 0, 0), sums[days - 1] * x.scale(0, days));
            Check.due("no box", x.boxes(0, 0), 0);
            Check.due("a box on each day but the first", x.boxes(0, 1), (days - 1) * x.scale(0, days));
            Check.due("as on each day", x.boxes(0, 3), (days - 1) * x.scale(0, days));
            Check.due("on the first nothing stands", x.boxes(0, 2), 0);
            // One of the second goes each day, as it holds more: of it none is ever kept.
            Check.due("the dearer is never kept", x.held(0, 1, 1), 0);
            Check.due("the other is", x.held(0, 0, 1), sums[days - 1] * x.scale(0, days));
        }
    }

    // judge: "(one for each SORT)", "1 more than STAND of some, or below 0; 2 too much ROOM", "fewer elements than SORTS"
    private static void judged() {
        SendTheBox x = with("box 1 room 7;sort room 2 comes 1 hold 3;sort room 3 comes 1 hold 5");
        for (int n = 0; n <= 4; n++) {
            x.row(n, 0, n);
        }
        int[] want = {-2, -2, 0, 0, 0};
        for (int n = 0; n <= 4; n++) {
            Check.due("a ROW of " + n, x.judge(0, 0, n), want[n]);
        }
        x.set(3, 2, 99);
        Check.due("one past the SORTS doesn't matter", x.judge(0, 0, 3), 0);
        // 2 of sort 0 and 3 of sort 1 stand.
        int[][] rows = {{0, 0, 0}, {2, 1, 0}, {2, 2, 2}, {3, 0, 1}, {2, 3, 2}, {2, 4, 1}, {3, 4, 1}, {-1, 0, 1}, {0, -1, 1}, {0, 2, 0},
            {0, 3, 2}, {1, 2, 2}, {-1, 4, 1}, {-128, 127, 1}};
        for (int[] r : rows) {
            x.set(2, 0, r[0]);
            x.set(2, 1, r[1]);
            Check.due("judge " + r[0] + " " + r[1], x.judge(0, 17, 2), r[2]);
        }
        x.set(2, 0, 2);
        x.set(2, 1, 1);
        for (int room = 6; room <= 8; room++) {
            x.alter(0, 1, room);
            Check.due("ROOM of 7 in " + room, x.judge(0, 17, 2), room < 7 ? 2 : 0);
        }
        x.row(5, 3, 2);
        for (long v : new long[] {Long.MIN_VALUE, Long.MAX_VALUE, 1L << 32, 1L << 63, (1L << 33) + 1}) {
            x.set(5, 0, v);
            Check.due("far off", x.judge(0, 17, 5), 1);
        }
    }

    private static SendTheBox oneToThreeSorts() {
        SendTheBox x = new SendTheBox();
        Check.house(x, SORT);
        Check.house(x, SORT + ";" + SORT);
        Check.house(x, SORT + ";" + SORT + ";" + SORT);
        Check.house(x, "days 2;" + SORT);
        Check.house(x, "days 4;" + SORT);
        return x;
    }

    // "two HOUSES of as many days, with 3 SORTS together at most"
    private static void whatCanBeJoined() {
        int[][] want = {{-2, 5, -5, -5, -5}, {5, -2, -5, -5, -5}, {-5, -5, -2, -5, -5}, {-5, -5, -5, -2, -5}, {-5, -5, -5, -5, -2}};
        for (int a = 0; a < 5; a++) {
            for (int b = 0; b < 5; b++) {
                SendTheBox x = oneToThreeSorts();
                Check.due("saved " + a + " " + b, Math.min(0, x.saved(a, b)), Math.min(0, want[a][b]));
                Check.due("join " + a + " " + b, x.join(a, b), want[a][b]);
            }
        }
        SendTheBox x = with(SORT);
        Check.house(x, SORT);
        Check.due("one and one", x.join(0, 1), 2);
        Check.due("one and the joined two", x.join(2, 0), 3);
        Check.due("no more than three", x.join(3, 0), -5);
        Check.due("nor two and two", x.join(2, 2), -2);
    }

    // "SORTS of one, then of the other; days, box, room, full of the first"
    private static void whatIsJoined() {
        SendTheBox x = with("days 1;box 2 room 3;full 1;sort room 4 comes 3 hold 5 refuse 6 left 7;" + SORT + " left 8");
        Check.house(x, "days 1;box 9 room 8;full 2;sort room 7 comes 2 hold 6 refuse 5 left 4");
        x.alter(1, 0, 98);
        x.change(1, 0, 3, 97);
        Check.due("join", x.join(1, 0), 2);
        int[] house = {1, 98, 8, 2, 3};
        int[][] sorts = {{7, 2, 6, 5, 97}, {4, 3, 5, 6, 7}, {1, 1, 1, 0, 8}};
        for (int what = 0; what <= 4; what++) {
            Check.due("houseOf", x.houseOf(2, what), house[what]);
            for (int sort = 0; sort <= 2; sort++) {
                Check.due("sortOf", x.sortOf(2, sort, what), sorts[sort][what]);
            }
        }
        Check.due("the tape has no part in it", x.status(1), 0);
    }

    // "0 at least"
    private static void savedZeroAtLeast() {
        SendTheBox x = with("days 2;box 20 room 4;sort room 4 comes 4 hold 0 left 50");
        Check.house(x, "days 2;box 20 room 4;sort room 4 comes 4 hold 0 left 50");
        // On the last day each sends one for 20; joined, there is room for one of the two.
        Check.due("it would cost more", x.saved(0, 1), 0);
        x.alter(0, 1, 7);
        Check.due("still", x.saved(0, 1), 0);
        x.alter(0, 1, 8);
        Check.due("a box for both", x.saved(0, 1), 20L << 12);
        x.alter(0, 0, 21);
        x.alter(1, 0, 1);
        // Apart 71 and 51, joined 121.
        Check.due("by one coin", x.saved(0, 1), 1L << 12);
        x.alter(1, 0, 0);
        Check.due("even", x.saved(0, 1), 0);
        SendTheBox y = with("days 6;" + SORT);
        Check.house(y, "days 6;" + SORT + ";" + SORT);
        Check.due("join", y.join(0, 1), 2);
        Check.due("by the scale of the joined one", y.saved(0, 1),
            Math.max(0, (y.cost(0, 6, 0) << 48 - 24) + (y.cost(1, 6, 0) << 48 - 36) - y.cost(2, 6, 0)));
    }

    // "SEED becomes SEED times 1103515245, and 12345 (an int, wrapping); its upper 16 bits, no sign, modulo n"
    private static void drawsThatWrap() {
        for (int[] d : DRAWS) {
            for (int full = 0; full <= 3; full++) {
                for (int comes = 0; comes <= 4; comes++) {
                    SendTheBox x = with("box 5 room 40;full " + full + ";sort room 1 comes " + comes + " hold 0 left 1");
                    x.rule(0, 1, 1);
                    x.seed(d[0]);
                    x.begin(0, 0);
                    int stands = 0;
                    for (int day = 0; day < 3; day++) {
                        boolean sent = d[1 + 2 * day] >= full && stands > 0;
                        stands = (sent ? 0 : stands) + (d[2 + 2 * day] < comes ? 1 : 0);
                        Check.due("seed " + d[0] + ", day " + day, x.step(1), (sent ? 5 : 0) + (day == 2 ? stands : 0));
                        Check.due("stands", x.week(1), stands);
                    }
                    Check.due("SEED then", x.status(2), d[7]);
                }
            }
        }
    }

    // "if a DRAW below 4 is below full", "below comes": 0 never, 4 always
    private static void drawsBelow() {
        SendTheBox x = with("days 6;box 1 room 40;sort room 1 comes 4 hold 0");
        x.rule(0, 1, 1);
        for (int seed = -300; seed < 100; seed += 7) {
            x.seed(seed * 7654321);
            Check.due("never full, comes always: five boxes", x.weeks(0, 0, 1), 5);
        }
        x.change(0, 0, 0, 0);
        Check.due("none ever comes", x.weeks(0, 0, 50), 0);
    }

    // "A WEEK ..: nothing STANDS, all its days are left."
    private static void aWeekAtFirst() {
        for (int days = 1; days <= 6; days++) {
            SendTheBox x = with("days " + days + ";" + SORT);
            x.rule(0, 1, 1);
            for (int what = 0; what <= 5; what++) {
                Check.due("none is under way", x.week(what), -5);
            }
            Check.due("its days", x.begin(0, 0), days);
            for (int what = 0; what <= 5; what++) {
                Check.due("at first", x.week(what), what == 0 ? days : 0);
            }
            Check.due("one short", x.week(-1), -2);
            Check.due("one past", x.week(6), -2);
            Check.due("nothing is drawn yet", x.status(2), 1);
        }
    }

    // step: "n DAYS (1 to 6) more of it, till none is left"
    private static void daysTillNoneIsLeft() {
        for (int days = 1; days <= 6; days++) {
            for (int n = 1; n <= 6; n++) {
                SendTheBox x = with("days " + days + ";box 1 room 1;sort room 9 comes 4 hold 1");
                x.rule(0, 1, 1);
                x.begin(0, 0);
                Check.due("0 days", x.step(0), -2);
                Check.due("7 days", x.step(7), -2);
                int passed = Math.min(n, days);
                int[] coins = {0, 0, 1, 3, 6, 10, 14};
                Check.due("step " + n + " of " + days, x.step(n), coins[passed]);
                Check.due("days left", x.week(0), days - passed);
                Check.due("two draws a day", x.status(2), seedAfter(2 * passed));
                Check.due("the rest", x.step(6), passed == days ? -5 : coins[days] - coins[passed]);
                Check.due("none is left", x.step(1), -5);
                Check.due("the week stands yet", x.week(0), 0);
                Check.due("coins in all", x.week(2), coins[days]);
            }
        }
    }

    private static int seedAfter(int draws) {
        int seed = 1;
        for (int i = 0; i < draws; i++) {
            seed = seed * 1103515245 + 12345;
        }
        return seed;
    }

    // "(the last DAY's end: left, too)"
    private static void theLastDaysEnd() {
        SendTheBox x = with("days 6;box 1 room 1;sort room 9 comes 4 hold 0 refuse 7 left 11");
        x.rule(0, 1, 1);
        x.begin(0, 0);
        int[] coins = {0, 0, 0, 0, 7, 7 + 44};
        for (int day = 0; day < 6; day++) {
            Check.due("day " + day, x.step(1), coins[day]);
        }
        int[] all = {0, 4, 58, 0, 0, 2};
        for (int what = 0; what <= 5; what++) {
            Check.due("week(" + what + ")", x.week(what), all[what]);
        }
    }

    // weeks: "n WEEKS (1 to 50) of a HOUSE by the RULE: coins of all"
    private static void oneToFiftyWeeks() {
        SendTheBox x = with("days 6;box 1 room 1;sort room 9 comes 4 hold 1 refuse 7 left 11");
        x.rule(0, 1, 1);
        int coins = 14 + 14 + 44;
        int[][] want = {{0, -2}, {1, coins}, {2, 2 * coins}, {49, 49 * coins}, {50, 50 * coins}, {51, -2}, {-1, -2}};
        for (int[] w : want) {
            Check.due("weeks " + w[0], x.weeks(0, 0, w[0]), w[1]);
        }
        Check.due("no week is under way by that", x.week(0), -5);
        x.seed(1);
        x.weeks(0, 0, 2);
        Check.due("twelve draws a week", x.status(2), seedAfter(24));
        SendTheBox y = with("days 6;box 1 room 1" + ";sort room 9 comes 4 hold 9 refuse 99 left 99".repeat(3));
        y.rule(0, 1, 1);
        Check.due("the greatest sum", y.weeks(0, 0, 50), 50 * (27 * 14 + 2 * 297 + 12 * 99));
    }

    // begin: "(another one is given up)", "(as it is now)"
    private static void anotherIsGivenUp() {
        SendTheBox x = with("days 6;box 1 room 1;sort room 9 comes 4 hold 1");
        Check.house(x, "days 2;box 1 room 1;sort room 9 comes 4 hold 3");
        x.rule(0, 1, 1);
        x.begin(0, 0);
        x.step(3);
        Check.due("a refused one gives up nothing", x.begin(2, 0), -2);
        Check.due("days left", x.week(0), 3);
        Check.due("another", x.begin(1, 0), 2);
        Check.due("coins", x.week(2), 0);
        x.change(1, 0, 1, 9);
        x.rule(0, 4, 0);
        Check.due("its house as it was", x.step(6), 3);
        Check.due("the one ahead is gone", x.step(1), -5);
        Check.due("as it is now", x.begin(1, 0), 2);
        Check.due("its house as it is", x.step(6), 9);
    }

    // HOUSES that differ in their days alone follow one another in a week, in a place of the image, joined.
    private static void otherDaysAlone() {
        String often = "box 1 room 9;sort room 1 comes 4 hold 9";
        SendTheBox x = with("days 1;" + often);
        Check.house(x, "days 3;" + often);
        x.rule(0, 4, 0);
        int[][] weeks = {{0, 0}, {1, 2}, {0, 0}, {1, 2}};
        for (int[] w : weeks) {
            x.begin(w[0], 0);
            Check.due("coins of HOUSE " + w[0], x.step(6), w[1]);
            Check.due("boxes of HOUSE " + w[0], x.week(3), w[1]);
        }
        SendTheBox y = new SendTheBox();
        y.image();
        y.rule(0, 4, 0);
        for (int days = 1; days <= 6; days++) {
            y.back();
            Check.house(y, "days " + days + ";" + often);
            Check.due("one past, " + days, y.cost(0, days + 1, 0), -2);
            Check.due("cost, " + days, y.cost(0, days, 0), (days - 1L) << 4 * days);
            Check.due("promise, " + days, y.promise(0, days), 0);
            Check.due("mean, " + days, y.mean(0, days, 0, 0), (days - 1L) << 4 * days);
            Check.due("one past", y.mean(0, days + 1, 0, 0), -2);
        }
        SendTheBox z = new SendTheBox();
        for (int i = 0; i < 6; i++) {
            Check.house(z, "days " + (1 + i / 2) + ";" + often);
        }
        for (int i = 0; i < 3; i++) {
            // Both send on all days but the first; joined they send in one box.
            Check.due("saved, " + (1 + i) + " days", z.saved(2 * i, 2 * i + 1), (long) i << 6 * (1 + i));
        }
        Check.due("saved, other days", z.saved(1, 2), -5);
        SendTheBox v = with("days 1;box 9 room 8;full 1" + ";sort room 2 comes 1 hold 1 refuse 1 left 1".repeat(3));
        Check.house(v, "days 3;" + often);
        Check.due("no number of the HOUSE is 0", v.cost(0, 0, 31), 3);
        v.rule(0, 4, 0);
        v.begin(0, 0);
        v.step(1);
        v.begin(1, 0);
        Check.due("coins of a HOUSE that differs in all", v.step(6), 2);
        Check.due("boxes of a HOUSE that differs in all", v.week(3), 2);
    }

    // image: "All is kept, but THE TAPE, SHELVES and status()"
    private static void imagesKeepAllBut() {
        SendTheBox x = with("days 3;box 1 room 1;sort room 9 comes 4 hold 1");
        x.rule(0, 1, 1);
        x.row(1, 0, 1);
        x.begin(0, 0);
        x.step(2);
        x.seed(55);
        Check.due("nothing was kept", x.back(), -5);
        Check.due("image", x.image(), 1);
        x.step(1);
        x.alter(0, 0, 2);
        x.change(0, 0, 1, 9);
        Check.house(x, "days 3;" + SORT);
        x.join(0, 1);
        x.seed(77);
        x.feed(0, 2);
        x.row(0, 1, 3);
        x.rule(1, 2, 3);
        x.set(7, 0, 0);
        x.set(8, 0, 0);
        Check.due("back", x.back(), 1);
        Check.due("HOUSES", x.status(0), 1);
        Check.due("none of the later", x.houseOf(1, 0), -2);
        Check.due("box", x.houseOf(0, 1), 1);
        Check.due("hold", x.sortOf(0, 0, 2), 1);
        Check.due("SEED", x.status(2), 55);
        Check.due("days left", x.week(0), 1);
        Check.due("coins", x.week(2), 1);
        Check.due("THE TAPE stays", x.status(1), 2);
        Check.due("SHELVES stay", x.holds(0), 1);
        Check.due("SHELVES stay", x.holds(1), 12);
        Check.due("BAD stays", x.status(12), 2);
        Check.due("NOTHING stays", x.status(14), 1);
        Check.due("STUCK stays", x.status(15), 1);
        Check.due("by its rule, which no SHELF holds", x.step(1), 2);
    }

    private static void theLaterImage() {
        SendTheBox x = new SendTheBox();
        x.image();
        Check.house(x, SORT);
        x.seed(5);
        x.image();
        Check.house(x, SORT);
        x.seed(6);
        for (int i = 0; i < 3; i++) {
            Check.due("back", x.back(), 1);
            Check.due("the later one", x.status(0), 1);
            Check.due("the later one", x.status(2), 5);
            x.seed(7 + i);
            x.change(0, 0, 0, 4);
            Check.due("a house there again", Check.house(x, "days " + (1 + i) + ";" + SORT), 1);
            Check.due("the new one", x.houseOf(1, 0), 1 + i);
        }
        x.image();
        x.back();
        Check.due("the last one", x.status(0), 2);
        Check.due("the last one", x.sortOf(0, 0, 1), 4);
        SendTheBox y = with(SORT);
        y.rule(0, 1, 1);
        y.image();
        y.begin(0, 0);
        y.back();
        Check.due("no week was under way", y.week(0), -5);
        Check.due("no week was under way", y.step(1), -5);
    }

    // status: "HOUSES (0), THE TAPE's size (1), SEED (2), SHELVES (3); 12 to 16: REFUSALS. NONE another what."
    private static void statusOfAll() {
        SendTheBox x = with(SORT);
        x.feed(0, 3);
        x.seed(-9);
        x.rule(2, 1, 1);
        x.row(0, 1, 1);
        for (int i = 0; i < 5; i++) {
            for (int n = 0; n <= i; n++) {
                int[] answers = {i == 0 ? x.row(8, 0, 0) : -2, i == 1 ? x.says(0, 0) : -3, i == 2 ? x.says(1, 0) : -4,
                    i == 3 ? x.back() : -5, -6};
                Check.due("refused", answers[i], -2 - i);
            }
        }
        int[] want = {1, 3, -9, 2, -1, -1, -1, -1, -1, -1, -1, -1, 1, 2, 3, 4, 0, -1};
        for (int what = 0; what < want.length; what++) {
            Check.due("status(" + what + ")", x.status(what), want[what]);
        }
        Check.feedText(x, " ".repeat(156));
        for (int i = 0; i < 5; i++) {
            Check.due("feed", x.feed(0, 2), -6);
        }
        Check.due("status(16)", x.status(16), 5);
        for (int what : new int[] {-1, 17, 18, Integer.MIN_VALUE, Integer.MAX_VALUE}) {
            Check.due("another what", x.status(what), -1);
        }
        Check.due("that is no refusal", x.status(12), 1);
    }
}
