/** Promises 9 to 17: the tape, houses and their numbers, states. */
public final class HousesTest {
    private static final String SORT = "sort room 1 comes 1 hold 1";

    public static void main(String[] args) {
        tape();
        goodTapes();
        faults();
        fullOfHouses();
        numbers();
        alters();
        changes();
        states();
        Check.finish();
    }

    private static void tape() {
        SendTheBox x = new SendTheBox();
        Check.due("feed 1", x.feed(0x7F00 | 's', 1), 1);
        Check.due("feed 2", x.feed(0x01000000 | 'o' << 8 | 'r', 2), 3);
        Check.due("feed 1", x.feed('t', 1), 4);
        Check.due("feed 3", x.feed(' ' << 16 | ' ' << 8 | 'r', 3), 7);
        Check.due("feed 4", x.feed('o' << 24 | 'o' << 16 | 'm' << 8 | '2', 4), 11);
        Check.feedText(x, "comes 3 hold 4");
        Check.due("house()", x.house(), 0);
        Check.due("room", x.sortOf(0, 0, 0), 2);
        Check.due("the tape is empty", x.status(1), 0);
        Check.due("bad n", x.feed(1, 0), -2);
        Check.due("bad n", x.feed(1, 5), -2);
        Check.due("bad n", x.feed(1, -1), -2);
        for (int i = 1; i <= 39; i++) {
            Check.due("feed", x.feed(0, 4), 4 * i);
        }
        Check.due("feed 3", x.feed(0, 3), 159);
        Check.due("full", x.feed(0, 2), -6);
        Check.due("bad ahead of full", x.feed(0, 9), -2);
        Check.due("status(1)", x.status(1), 159);
        Check.due("the last byte", x.feed(0, 1), 160);
        Check.due("full", x.feed(0, 1), -6);
        Check.due("status(16)", x.status(16), 2);
        Check.due("wipe()", x.wipe(), 160);
        Check.due("wipe()", x.wipe(), 0);
        Check.due("feed after", x.feed(-1, 4), 4);
    }

    private static void good(String text, String house, String sort) {
        SendTheBox x = new SendTheBox();
        Check.due("house of '" + text + "'", Check.house(x, text), 0);
        StringBuilder h = new StringBuilder();
        StringBuilder s = new StringBuilder();
        for (int what = 0; what <= 4; what++) {
            h.append(x.houseOf(0, what)).append(' ');
            s.append(x.sortOf(0, 0, what)).append(' ');
        }
        Check.dueText("house of '" + text + "'", h.toString().trim(), house);
        Check.dueText("sort of '" + text + "'", s.toString().trim(), sort);
    }

    private static void goodTapes() {
        good(SORT, "3 10 10 0 1", "1 1 1 0 0");
        good("  sort  room 9comes4hold9refuse99left99  ", "3 10 10 0 1", "9 4 9 99 99");
        good("sort room 01 comes 00 hold 00", "3 10 10 0 1", "1 0 0 0 0");
        good(SORT + " left 7", "3 10 10 0 1", "1 1 1 0 7");
        good(SORT + " refuse 7", "3 10 10 0 1", "1 1 1 7 0");
        good("days 6;box 0 room 1;full 3;" + SORT, "6 0 1 3 1", "1 1 1 0 0");
        good(SORT + ";days1 ; box99room40;full0", "1 99 40 0 1", "1 1 1 0 0");
        good("days 6;days 2;full 3;full 1;box 3 room 3;" + SORT + ";box 4 room 5", "2 4 5 1 1", "1 1 1 0 0");
        good(SORT + ";sort room 2 comes 2 hold 2;sort room 3 comes 3 hold 3", "3 10 10 0 3", "1 1 1 0 0");
    }

    private static void fault(String text, int place) {
        SendTheBox x = new SendTheBox();
        Check.due("fault of '" + text + "'", Check.house(x, text), -20 - place);
        Check.due("it is refused", x.status(12), 1);
        Check.due("the tape is empty", x.status(1), 0);
        Check.due("no house", x.status(0), 0);
        Check.due("the next house", Check.house(x, SORT), 0);
    }

    private static void faults() {
        fault("", 0);
        fault("   ", 3);
        fault("days", 4);
        fault("days ", 5);
        fault("days 0", 5);
        fault("days 7", 5);
        fault("days 001", 5);
        fault("days x", 5);
        fault("days 2 3", 7);
        fault("days 2;", 7);
        fault("days 2", 6);
        fault(";days 2", 0);
        fault("days 2;;", 7);
        fault("day 2", 0);
        fault("dayss 2", 0);
        fault("Days 2", 0);
        fault("daysz 2", 0);
        fault("xays 2", 0);
        fault("bax 2", 0);
        fault("daYs 2", 0);
        fault("days=2", 4);
        fault("days\t2", 4);
        fault("days " + (char) 233, 5);
        fault("days;", 4);
        fault("5", 0);
        fault("box 5", 5);
        fault("box 5;room 3", 5);
        fault("box 100 room 1", 4);
        fault("box 5 room 0", 11);
        fault("box 5 room 41", 11);
        fault("room 5", 0);
        fault("full 4", 5);
        fault("sort", 4);
        fault("sort 1", 5);
        fault("sort room 0", 10);
        fault("sort room 10", 10);
        fault("sort room 1 comes 5", 18);
        fault("sort room 1 hold 1", 12);
        fault("sort room 1 comes 1 hold 10", 25);
        fault("sort room 1 comes 1", 19);
        fault("sort room 1 comes 1;", 19);
        fault(SORT + " refuse", 33);
        fault(SORT + " refuse 100", 34);
        fault(SORT + ";" + SORT + " refuse", 60);
        fault(SORT + ";" + SORT + " refuse;full 1", 60);
        fault(SORT + " refuse 1 refuse 1", 36);
        fault(SORT + " left 1 refuse 1", 34);
        fault(SORT + " left 1 left 1", 34);
        fault(SORT + " left 100", 32);
        fault(SORT + ";", 27);
        fault(SORT + " ; ", 29);
        fault(SORT + " days 3", 27);
        fault(SORT + ";sort room 1 comes 1 hold 1;" + SORT + ";" + SORT, 81);
        fault(SORT + ";" + SORT + ";" + SORT + ";full 9", 86);
    }

    private static void fullOfHouses() {
        SendTheBox x = new SendTheBox();
        for (int i = 0; i < 6; i++) {
            Check.due("house", Check.house(x, SORT), i);
        }
        Check.feedText(x, "bad");
        Check.due("full ahead of all", x.house(), -6);
        Check.due("the tape stays", x.status(1), 3);
        Check.due("status(0)", x.status(0), 6);
        Check.due("status(16)", x.status(16), 1);
        Check.due("status(12)", x.status(12), 0);
        Check.due("the last", x.houseOf(5, 0), 3);
        Check.due("none", x.houseOf(6, 0), -2);
    }

    private static void numbers() {
        SendTheBox x = new SendTheBox();
        Check.house(x, "days 5;box 12 room 23;full 2;sort room 3 comes 4 hold 5 refuse 6 left 7;sort room 8 comes 2 hold 9");
        int[] house = {5, 12, 23, 2, 2};
        int[][] sorts = {{3, 4, 5, 6, 7}, {8, 2, 9, 0, 0}};
        for (int what = 0; what <= 4; what++) {
            Check.due("houseOf", x.houseOf(0, what), house[what]);
            Check.due("sortOf", x.sortOf(0, 0, what), sorts[0][what]);
            Check.due("sortOf", x.sortOf(0, 1, what), sorts[1][what]);
        }
        Check.due("bad house", x.houseOf(1, 0), -2);
        Check.due("bad house", x.houseOf(-1, 0), -2);
        Check.due("bad what", x.houseOf(0, 5), -2);
        Check.due("bad what", x.houseOf(0, -1), -2);
        Check.due("bad house", x.sortOf(1, 0, 0), -2);
        Check.due("bad sort", x.sortOf(0, 2, 0), -2);
        Check.due("bad sort", x.sortOf(0, -1, 0), -2);
        Check.due("bad what", x.sortOf(0, 0, 5), -2);
        Check.due("bad what", x.sortOf(0, 0, -1), -2);
        Check.due("status(12)", x.status(12), 9);
    }

    private static void alters() {
        SendTheBox x = new SendTheBox();
        Check.house(x, SORT);
        int[] least = {0, 1, 0};
        int[] most = {99, 40, 3};
        int[] first = {10, 10, 0};
        for (int what = 0; what < 3; what++) {
            Check.due("alter", x.alter(0, what, most[what]), first[what]);
            Check.due("alter", x.alter(0, what, least[what]), most[what]);
            Check.due("too little", x.alter(0, what, least[what] - 1), -2);
            Check.due("too much", x.alter(0, what, most[what] + 1), -2);
            Check.due("it is", x.houseOf(0, what + 1), least[what]);
        }
        Check.due("bad what", x.alter(0, -1, 1), -2);
        Check.due("bad what", x.alter(0, 3, 1), -2);
        Check.due("bad house", x.alter(1, 0, 1), -2);
        Check.due("bad house", x.alter(-1, 0, 1), -2);
        Check.due("days stay", x.houseOf(0, 0), 3);
        Check.due("bad what", x.alter(0, Integer.MAX_VALUE, 1), -2);
    }

    private static void changes() {
        SendTheBox x = new SendTheBox();
        Check.house(x, SORT + ";" + SORT);
        int[] most = {4, 9, 99, 99};
        int[] first = {1, 1, 0, 0};
        for (int what = 0; what < 4; what++) {
            Check.due("change", x.change(0, 1, what, most[what]), first[what]);
            Check.due("change", x.change(0, 1, what, 0), most[what]);
            Check.due("too little", x.change(0, 1, what, -1), -2);
            Check.due("too much", x.change(0, 1, what, most[what] + 1), -2);
            Check.due("it is", x.sortOf(0, 1, what + 1), 0);
            Check.due("the other sort's", x.sortOf(0, 0, what + 1), first[what]);
        }
        Check.due("bad what", x.change(0, 1, -1, 1), -2);
        Check.due("bad what", x.change(0, 1, 4, 1), -2);
        Check.due("bad sort", x.change(0, 2, 0, 1), -2);
        Check.due("bad sort", x.change(0, -1, 0, 1), -2);
        Check.due("bad house", x.change(1, 0, 0, 1), -2);
    }

    private static void states() {
        SendTheBox x = new SendTheBox();
        for (int state = 0; state < 125; state++) {
            Check.due("of", x.of(state, 0) + 5 * x.of(state, 1) + 25 * x.of(state, 2), state);
        }
        Check.due("of(107, 0)", x.of(107, 0), 2);
        Check.due("of(107, 1)", x.of(107, 1), 1);
        Check.due("of(107, 2)", x.of(107, 2), 4);
        Check.due("bad state", x.of(125, 0), -2);
        Check.due("bad state", x.of(-1, 0), -2);
        Check.due("bad sort", x.of(0, 3), -2);
        Check.due("bad sort", x.of(0, -1), -2);
        Check.house(x, "sort room 3 comes 1 hold 1;sort room 5 comes 1 hold 1");
        Check.due("space", x.space(0, 0), 0);
        Check.due("space", x.space(0, 24), 32);
        Check.due("space", x.space(0, 7), 11);
        Check.due("no such state", x.space(0, 25), -2);
        Check.due("no such state", x.space(0, -1), -2);
        Check.due("no such house", x.space(1, 0), -2);
        Check.house(x, "sort room 3 comes 1 hold 1");
        Check.due("one sort", x.space(1, 4), 12);
        Check.due("one sort", x.space(1, 5), -2);
        Check.house(x, SORT + ";" + SORT + ";" + SORT);
        Check.due("three sorts", x.space(2, 124), 12);
        Check.due("three sorts", x.space(2, 125), -2);
    }
}
