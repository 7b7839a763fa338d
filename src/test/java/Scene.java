import java.util.ArrayList;
import java.util.List;

/** Objects in which all kinds of things stand, and pictures of all that can be seen of one. */
final class Scene {
    /** Two sorts, three days. */
    static final int TWO = 0;
    /** One sort, one day. */
    static final int ONE = 1;
    /** Three sorts, six days. */
    static final int THREE = 2;
    /** One sort, three days: it can be joined with TWO. */
    static final int FIT = 3;
    /** Two sorts, three days: with TWO it has too many sorts. */
    static final int WIDE = 4;

    static final int BYTES = 0;
    static final int SHORTS = 1;
    /** A row of no elements. */
    static final int EMPTY = 2;
    static final int FULL = 3;
    static final int BOTH = 4;
    static final int TOLD = 5;
    static final int BEST = 6;
    /** A shelf that holds nothing. */
    static final int NOTHING = 7;

    private static final String SORT = "sort room 1 comes 1 hold 1";

    private Scene() {
    }

    /** Five houses, shelves with all but one in use, eight bytes on the tape, a week under way, an image. */
    static SendTheBox standing() {
        SendTheBox x = new SendTheBox();
        houses(x);
        shelves(x);
        x.seed(7);
        x.begin(FIT, FULL);
        x.step(1);
        x.image();
        x.alter(TWO, 0, 11);
        x.change(THREE, 2, 3, 8);
        x.begin(TWO, BEST);
        x.step(1);
        Check.feedText(x, "days 2;b");
        return x;
    }

    private static void houses(SendTheBox x) {
        Check.house(x, "box 12 room 6;full 1;sort room 2 comes 2 hold 3 refuse 4 left 9;sort room 3 comes 1 hold 5 left 2");
        Check.house(x, "days 1;" + SORT + " left 3");
        Check.house(x, "days 6;box 6 room 5;sort room 2 comes 3 hold 1;" + SORT + ";sort room 4 comes 2 hold 0 left 9");
        Check.house(x, "full 2;sort room 4 comes 3 hold 2");
        Check.house(x, SORT + ";" + SORT);
    }

    private static void shelves(SendTheBox x) {
        x.row(BYTES, 0, 5);
        x.row(SHORTS, 1, 5);
        x.row(EMPTY, 4, 0);
        for (int i = 0; i < 5; i++) {
            x.set(BYTES, i, 2 - i);
            x.set(SHORTS, i, 100 + i);
        }
        x.rule(FULL, 1, 4);
        x.rule(BOTH, 3, 52);
        x.rule(TOLD, 5, BYTES);
        x.rule(BEST, 4, 0);
    }

    /** The same with no place for one house more. */
    static SendTheBox fullOfHouses() {
        SendTheBox x = standing();
        x.join(FIT, TWO);
        return x;
    }

    /** The same with a tape on which no byte more has place: a good house of 160 bytes. */
    static SendTheBox fullTape() {
        SendTheBox x = standing();
        x.wipe();
        Check.feedText(x, SORT + " ".repeat(159 - 2 * SORT.length()) + ";" + SORT);
        return x;
    }

    /** The same with rows alone on the shelves. */
    static SendTheBox noRules() {
        SendTheBox x = standing();
        for (int s = FULL; s <= BEST; s++) {
            x.row(s, 2, 1);
        }
        return x;
    }

    /** The same with all days of the week gone. */
    static SendTheBox weekOver() {
        SendTheBox x = standing();
        x.step(6);
        return x;
    }

    /** Houses and shelves alone: no week, no image, nothing on the tape. */
    static SendTheBox early() {
        SendTheBox x = new SendTheBox();
        houses(x);
        shelves(x);
        return x;
    }

    /** How many were refused, by -2 to -6. */
    static List<Long> refusals(SendTheBox x) {
        List<Long> counts = new ArrayList<>();
        for (int what = 12; what <= 16; what++) {
            counts.add((long) x.status(what));
        }
        return counts;
    }

    /**
     * All that can be seen but the counts of refusals, and what the object does then: it is of no more use after this,
     * as the tape is read, the week goes on and the image comes back.
     */
    static List<Long> picture(SendTheBox x) {
        List<Long> seen = new ArrayList<>();
        for (int what = 0; what <= 3; what++) {
            seen.add((long) x.status(what));
        }
        lookAtShelves(x, seen);
        lookAtWorld(x, seen);
        Check.feedText(x, "ox 7 room 8;" + SORT);
        seen.add((long) x.status(1));
        seen.add((long) x.house());
        seen.add((long) x.wipe());
        lookAtHouse(x, x.status(0) - 1, seen);
        goOn(x, seen);
        seen.add((long) x.back());
        lookAtWorld(x, seen);
        goOn(x, seen);
        return seen;
    }

    private static void lookAtShelves(SendTheBox x, List<Long> seen) {
        for (int s = 0; s < 8; s++) {
            int held = x.holds(s);
            seen.add((long) held);
            if (held > 10) {
                seen.add((long) x.says(s, held - 10));
                seen.add((long) x.says(s, held == 13 ? 1 : 0));
            }
            for (int i = 0; held >= 0 && held <= 4 && i < 5; i++) {
                seen.add(x.element(s, i));
            }
        }
    }

    private static void lookAtWorld(SendTheBox x, List<Long> seen) {
        int n = x.status(0);
        seen.add((long) n);
        seen.add((long) x.status(2));
        for (int house = 0; house < n; house++) {
            lookAtHouse(x, house, seen);
            seen.add(x.cost(house, x.houseOf(house, 0), 0));
        }
        for (int what = 0; what <= 5; what++) {
            seen.add((long) x.week(what));
        }
    }

    private static void lookAtHouse(SendTheBox x, int house, List<Long> seen) {
        for (int what = 0; what <= 4; what++) {
            seen.add((long) x.houseOf(house, what));
        }
        for (int sort = 0; sort < x.houseOf(house, 4); sort++) {
            for (int what = 0; what <= 4; what++) {
                seen.add((long) x.sortOf(house, sort, what));
            }
        }
    }

    private static void goOn(SendTheBox x, List<Long> seen) {
        seen.add((long) x.step(6));
        seen.add((long) x.week(1));
        seen.add((long) x.status(2));
    }
}
