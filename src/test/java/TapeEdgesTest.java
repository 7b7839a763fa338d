/** "1. HOUSES", the tape's part: each sentence that names a boundary, at it, one short of it and one past it. */
public final class TapeEdgesTest {
    private static final String SORT = "sort room 1 comes 1 hold 1";

    public static void main(String[] args) {
        sixHousesAtMost();
        hundredAndSixtyBytes();
        lowestBytesHighestFirst();
        tokensAsLongAsCanBe();
        blanksAnywhere();
        otherBytesBeginNone();
        leastAndGreatestNumbers();
        twoDigitsAtMost();
        oneStatementAtLeast();
        signBetween();
        whatIsNotTold();
        whatIsToldLaterCounts();
        oneToThreeSorts();
        perhapsRefusePerhapsLeft();
        tooEarly();
        firstTokenThatCantStand();
        emptyEitherWay();
        Check.finish();
    }

    /** The number of the house, or -20 less the fault, of a text on a new object. */
    private static void due(String text, int want) {
        Check.due("house of '" + text + "'", Check.house(new SendTheBox(), text), want);
    }

    private static void fault(String text, int place) {
        due(text, -20 - place);
    }

    // "HOUSES have numbers, 0 on, 6 at most"
    private static void sixHousesAtMost() {
        SendTheBox x = new SendTheBox();
        for (int house = 0; house < 6; house++) {
            Check.due("not there yet", x.houseOf(house, 0), -2);
            Check.due("its number", Check.house(x, SORT), house);
            Check.due("it is there", x.houseOf(house, 0), 3);
            Check.due("HOUSES", x.status(0), house + 1);
        }
        Check.due("a seventh", Check.house(x, SORT), -6);
        Check.due("the tape stays", x.status(1), SORT.length());
        x.wipe();
        Check.due("FULL ahead of a fault", Check.house(x, "days 9"), -6);
        x.wipe();
        Check.due("FULL ahead of an empty tape", x.house(), -6);
        Check.due("FULL", x.status(16), 3);
        Check.due("BAD: the six that were not there yet", x.status(12), 6);
        SendTheBox y = new SendTheBox();
        Check.house(y, "bad");
        Check.due("a tape that is none makes no number", Check.house(y, SORT), 0);
        for (int house = 1; house < 6; house++) {
            Check.due("join makes the next", house == 1 ? Check.house(y, SORT) : y.join(0, 1), house);
        }
        Check.due("join: no seventh", y.join(0, 1), -6);
        Check.due("house: no seventh", y.house(), -6);
    }

    // "THE TAPE (bytes, 160 at most)"
    private static void hundredAndSixtyBytes() {
        for (int n = 1; n <= 4; n++) {
            SendTheBox x = new SendTheBox();
            Check.feedText(x, " ".repeat(160 - n - 1));
            Check.due("one place more than needed", x.feed(0, n), 159);
            Check.due("one place", x.feed(0, 1), 160);
            Check.due("no place", x.feed(0, 1), -6);
            SendTheBox y = new SendTheBox();
            Check.feedText(y, " ".repeat(160 - n));
            Check.due("just the places needed", y.feed(0, n), 160);
            SendTheBox z = new SendTheBox();
            Check.feedText(z, " ".repeat(160 - n + 1));
            Check.due("one place less than needed", z.feed(0, n), -6);
            Check.due("nothing of it is put in", z.status(1), 161 - n);
        }
        due(" ".repeat(160 - SORT.length()) + SORT, 0);
        due(SORT + " ".repeat(160 - SORT.length()), 0);
        fault(" ".repeat(160), 160);
        fault(SORT + " ".repeat(159 - SORT.length()) + ";", 160);
        fault(SORT + " ".repeat(159 - SORT.length()) + "x", 159);
        fault(" ".repeat(160 - 4) + "days", 160);
        fault(";".repeat(160), 0);
        due(SORT + ";full 1".repeat(19), 0);
        Check.due("length of that", (SORT + ";full 1".repeat(19)).length(), 159);
        due("full 1;".repeat(19) + SORT + " ", 0);
    }

    // "THE TAPE gets the n lowest bytes (1 .. 4) of v behind it, the highest of these first: its size."
    private static void lowestBytesHighestFirst() {
        int[] words = {'d' << 24 | 'a' << 16 | 'y' << 8 | 's', '9' << 24 | '9' << 16 | '9' << 8 | '2', ';'};
        SendTheBox x = new SendTheBox();
        Check.due("four bytes", x.feed(words[0], 4), 4);
        Check.due("the lowest of four", x.feed(words[1], 1), 5);
        Check.due("the lowest of one", x.feed(words[2], 1), 6);
        Check.due("the three lowest of four", x.feed('x' << 24 | 's' << 16 | 'o' << 8 | 'r', 3), 9);
        Check.due("the two lowest of four", x.feed('x' << 24 | 'x' << 16 | 't' << 8 | ' ', 2), 11);
        Check.feedText(x, "room 1comes 1hold 1");
        Check.due("house()", x.house(), 0);
        Check.due("days", x.houseOf(0, 0), 2);
        SendTheBox y = new SendTheBox();
        Check.due("a v below 0", y.feed(-1, 2), 2);
        Check.due("bytes of 255 begin none", y.house(), -20);
    }

    // "TOKENS, each as long as can be: WORDS (a .. z), NUMBERS (digits), the SIGN ;"
    private static void tokensAsLongAsCanBe() {
        due("days2;sortroom1comes1hold1", -20 - 6);
        due("days2;sort room1comes1hold1", 0);
        due("days2;sort room1comes1hold1refuse1left1", 0);
        fault("da ys 2", 0);
        fault("daysx 2", 0);
        fault("xdays 2", 0);
        fault("sortroom 1", 0);
        fault("days 1 1", 7);
        fault("days 11", 5);
        fault("full 1 0", 7);
        fault("box 1 1 room 1", 6);
        fault("sort room 1 comes 1 hold 1refusee 1", 26);
        fault("sort room 1 comes 1 hold 1refuse 1leftt 1", 34);
        fault("sort room 1 comes 1 hold 1left 1left 1", 32);
        fault("a", 0);
        fault("z", 0);
        fault("box 9 room 9;a", 13);
    }

    // "blanks (32) may stand anywhere between"
    private static void blanksAnywhere() {
        due("   days   2   ;   " + SORT.replace(" ", "   ") + "   ", 0);
        due(SORT + " ;full 1", 0);
        due(SORT + "; full 1", 0);
        fault(" " + "days 9", 6);
        fault("   7", 3);
        fault("  ;", 2);
        fault("d", 0);
        fault(" d ays 2", 1);
        fault("box 1 room 4 0;" + SORT, 13);
    }

    // "a byte that begins none"
    private static void otherBytesBeginNone() {
        String head = SORT + " ";
        int n = head.length();
        for (int b = 0; b < 256; b++) {
            char c = (char) b;
            if (c == ' ') {
                due(head + c, 0);
            } else if (c == ';') {
                fault(head + c, n + 1);
            } else {
                fault(head + c, n);
            }
            // Alone: the fault is the first byte, but that a blank is no token.
            fault(String.valueOf(c), c == ' ' ? 1 : 0);
            // Amid a number: a digit makes it longer, a blank parts it.
            fault("days 1" + c + "1", c >= '0' && c <= '9' ? 5 : c == ' ' ? 7 : c == ';' ? 7 : 6);
            // Behind a word: a letter makes it longer; all else parts it, and a 0 stands ahead of a good number.
            boolean letter = c >= 'a' && c <= 'z';
            due("days" + c + "2;" + SORT, c == ' ' || c == '0' ? 0 : letter ? -20 : -24);
            due("full 1" + c + ";" + SORT, c == ' ' ? 0 : c >= '0' && c <= '9' ? -25 : c == ';' ? -27 : -26);
        }
    }

    private static void number(String head, int least, int most, String tail) {
        for (int v = 0; v <= 100; v++) {
            String text = head + v + tail;
            due(text, v >= least && v <= most ? 0 : -20 - head.length());
        }
    }

    // "days N (1 to 6) ..; box N (0 to 99) room N (1 to 40); full N (0 to 3); sort room N (1 to 9) comes N (0 to 4)
    // hold N (0 to 9), perhaps refuse N (0 to 99), then perhaps left N (0 to 99)"
    private static void leastAndGreatestNumbers() {
        number("days ", 1, 6, ";" + SORT);
        number("box ", 0, 99, " room 1;" + SORT);
        number("box 1 room ", 1, 40, ";" + SORT);
        number("full ", 0, 3, ";" + SORT);
        number("sort room ", 1, 9, " comes 1 hold 1");
        number("sort room 1 comes ", 0, 4, " hold 1");
        number("sort room 1 comes 1 hold ", 0, 9, "");
        number(SORT + " refuse ", 0, 99, "");
        number(SORT + " refuse 1 left ", 0, 99, "");
        number(SORT + " left ", 0, 99, "");
    }

    // "a NUMBER that may not be, or has more than 2 digits"
    private static void twoDigitsAtMost() {
        String[] heads = {"days ", "box 0 room ", "full ", "sort room ", "sort room 1 comes ", "sort room 1 comes 1 hold "};
        String[] tails = {";" + SORT, ";" + SORT, ";" + SORT, " comes 1 hold 1", " hold 1", ""};
        for (int i = 0; i < heads.length; i++) {
            due(heads[i] + "1" + tails[i], 0);
            due(heads[i] + "01" + tails[i], 0);
            fault(heads[i] + "001" + tails[i], heads[i].length());
            fault(heads[i] + "0000000001" + tails[i], heads[i].length());
            fault(heads[i] + "4294967297" + tails[i], heads[i].length());
        }
        due("box 00 room 01;" + SORT, 0);
        fault("box 000 room 01;" + SORT, 4);
        fault(SORT + " refuse 000", 34);
        fault(SORT + " left 000", 32);
    }

    // "STATEMENTS, one or more"
    private static void oneStatementAtLeast() {
        fault("", 0);
        fault(" ", 1);
        due(SORT, 0);
        due("full 1;" + SORT, 0);
    }

    // "with ; between"
    private static void signBetween() {
        fault("days 2 " + SORT, 7);
        due("days 2;" + SORT, 0);
        fault("days 2;;" + SORT, 7);
        fault(";" + SORT, 0);
        fault(SORT + ";", SORT.length() + 1);
        fault(SORT + ";;", SORT.length() + 1);
    }

    private static void numbers(String text, int house, int[] ofHouse, int[] ofSort) {
        SendTheBox x = new SendTheBox();
        Check.due("house of '" + text + "'", Check.house(x, text), house);
        for (int what = 0; what < ofHouse.length; what++) {
            Check.due(text + ": houseOf " + what, x.houseOf(0, what), ofHouse[what]);
        }
        for (int what = 0; what < ofSort.length; what++) {
            Check.due(text + ": sortOf " + what, x.sortOf(0, 0, what), ofSort[what]);
        }
    }

    // "3 at first", "10", "10", "0", "both 0 if not told"
    private static void whatIsNotTold() {
        numbers(SORT, 0, new int[] {3, 10, 10, 0, 1}, new int[] {1, 1, 1, 0, 0});
        numbers("days 5;" + SORT, 0, new int[] {5, 10, 10, 0, 1}, new int[] {1, 1, 1, 0, 0});
        numbers("box 0 room 40;" + SORT, 0, new int[] {3, 0, 40, 0, 1}, new int[] {1, 1, 1, 0, 0});
        numbers("full 3;" + SORT, 0, new int[] {3, 10, 10, 3, 1}, new int[] {1, 1, 1, 0, 0});
        numbers(SORT + " refuse 99", 0, new int[] {3, 10, 10, 0, 1}, new int[] {1, 1, 1, 99, 0});
        numbers(SORT + " left 99", 0, new int[] {3, 10, 10, 0, 1}, new int[] {1, 1, 1, 0, 99});
        SendTheBox x = new SendTheBox();
        Check.house(x, "days 5;box 1 room 2;full 3;" + SORT + " refuse 4 left 5");
        Check.house(x, SORT);
        for (int what = 0; what <= 4; what++) {
            Check.due("not the ones of the house ahead", x.houseOf(1, what), new int[] {3, 10, 10, 0, 1}[what]);
            Check.due("not the ones of the sort ahead", x.sortOf(1, 0, what), new int[] {1, 1, 1, 0, 0}[what]);
        }
        Check.house(x, "days 5;box 1 room 2;full 3;" + SORT + " refuse 4 left 5;" + SORT + " refuse 4 left 5;x");
        Check.house(x, SORT + ";" + SORT);
        for (int what = 0; what <= 4; what++) {
            Check.due("not the ones of a tape with a fault", x.houseOf(2, what), new int[] {3, 10, 10, 0, 2}[what]);
            Check.due("not the ones of a tape with a fault", x.sortOf(2, 1, what), new int[] {1, 1, 1, 0, 0}[what]);
        }
    }

    // "What is told later counts."
    private static void whatIsToldLaterCounts() {
        numbers("days 6;days 1;" + SORT, 0, new int[] {1, 10, 10, 0, 1}, new int[0]);
        numbers("box 1 room 2;" + SORT + ";box 3 room 4", 0, new int[] {3, 3, 4, 0, 1}, new int[0]);
        numbers("full 3;full 2;full 0;" + SORT, 0, new int[] {3, 10, 10, 0, 1}, new int[0]);
        fault("days 2;days 7;" + SORT, 12);
    }

    // "SORTS 3 at most, one at least", "a fourth sort"
    private static void oneToThreeSorts() {
        String[] texts = {"days 2", SORT, SORT + ";" + SORT, SORT + ";" + SORT + ";" + SORT};
        fault(texts[0], 6);
        for (int n = 1; n <= 3; n++) {
            SendTheBox x = new SendTheBox();
            Check.due("sorts " + n, Check.house(x, texts[n]), 0);
            Check.due("SORTS", x.houseOf(0, 4), n);
            Check.due("the last", x.sortOf(0, n - 1, 0), 1);
            Check.due("one past it", x.sortOf(0, n, 0), -2);
        }
        int n = texts[3].length();
        fault(texts[3] + ";" + SORT, n + 1);
        fault(texts[3] + ";sort", n + 1);
        fault(texts[3] + " ; sort", n + 3);
        fault(texts[3] + ";full 1;sort room 99", n + 8);
        due(texts[3] + ";full 1;days 2", 0);
    }

    private static void perhapsRefusePerhapsLeft() {
        due(SORT + " refuse 0", 0);
        due(SORT + " left 0", 0);
        due(SORT + " refuse 0 left 0", 0);
        fault(SORT + " left 0 refuse 0", 34);
        fault(SORT + " refuse 0 refuse 0", 36);
        fault(SORT + " refuse 0 left 0 left 0", 43);
        fault("sort comes 1 room 1 hold 1", 5);
        fault("sort room 1 hold 1 comes 1", 12);
        fault("sort room 1 comes 1 refuse 1 hold 1", 20);
        fault("sort room 1 comes 1 left 1", 20);
    }

    // "THE TAPE's size, if it ends too early"
    private static void tooEarly() {
        String whole = "box 12 room 34;sort room 5 comes 3 hold 2 refuse 10 left 20";
        for (int n = 0; n <= whole.length(); n++) {
            String text = whole.substring(0, n);
            boolean wordCut = whole.substring(0, n).matches(".*[a-z]") && whole.substring(n).matches("[a-z].*");
            if (text.matches(".*hold 2 ?( refuse [0-9]+)? ?( left [0-9]+)?")) {
                due(text, 0);
            } else {
                fault(text, wordCut ? lastToken(text) : n);
            }
        }
        fault("days 2;full 1;box 3 room 4", 26);
        fault("days 2;full 1;box 3 room 4   ", 29);
    }

    private static int lastToken(String text) {
        int from = text.length();
        while (from > 0 && Character.isLetter(text.charAt(from - 1))) {
            from--;
        }
        return from;
    }

    // "the place of the first byte of the first TOKEN that can't stand there"
    private static void firstTokenThatCantStand() {
        fault("days 7;days 8", 5);
        fault("days x 7", 5);
        fault("days ;", 5);
        fault("7 days", 0);
        fault("box 1 full 2", 6);
        fault("box 1 room", 10);
        fault("box room 1", 4);
        fault("box 1 room room", 11);
        fault("full full", 5);
        fault("full 3 3", 7);
        fault("room 1", 0);
        fault("comes 1", 0);
        fault("hold 1", 0);
        fault("refuse 1", 0);
        fault("left 1", 0);
        fault(SORT + " hold 1", 27);
        fault(SORT + " 1", 27);
        fault(SORT + " refuse refuse", 34);
        fault(SORT + " refuse;", 33);
        fault(SORT + " left left", 32);
        fault(SORT + "=", 26);
    }

    // "its number; -20 less the FAULT (that is refused, too: BAD). THE TAPE is empty then, either way."
    private static void emptyEitherWay() {
        SendTheBox x = new SendTheBox();
        Check.due("good", Check.house(x, SORT), 0);
        Check.due("empty", x.status(1), 0);
        Check.due("nothing is refused", x.status(12), 0);
        Check.due("a fault", Check.house(x, SORT + "x"), -46);
        Check.due("empty", x.status(1), 0);
        Check.due("refused as BAD", x.status(12), 1);
        Check.due("an empty one", x.house(), -20);
        Check.due("refused as BAD", x.status(12), 2);
        Check.due("HOUSES", x.status(0), 1);
        Check.due("wipe: its size ahead", x.wipe(), 0);
        x.feed(0, 3);
        Check.due("wipe: its size ahead", x.wipe(), 3);
        Check.due("empty", x.status(1), 0);
        Check.due("the first byte again", x.feed(0, 1), 1);
    }
}
