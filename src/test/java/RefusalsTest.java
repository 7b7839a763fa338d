import java.util.ArrayList;
import java.util.List;
import java.util.function.Supplier;

/**
 * Refused calls, promise by promise: each answers its number, the count of these refusals is one more, and nothing
 * else has changed; where several fit, the first that the promise's line has is the one.
 */
public final class RefusalsTest {
    private static final int BAD = -2;
    private static final int OTHER = -3;
    private static final int NONE_THERE = -4;
    private static final int STUCK = -5;
    private static final int OVERFULL = -6;
    private static final int LOW = Integer.MIN_VALUE;
    private static final int HIGH = Integer.MAX_VALUE;
    private static final int[] NO_SHELVES = {-1, 8, LOW, HIGH};
    private static final int[] NO_HOUSES = {-1, 5, LOW, HIGH};

    /** A call that is to be refused. */
    private interface Call {
        long on(SendTheBox x);
    }

    /** A call of which one number is left open. */
    private interface CallWith {
        long on(SendTheBox x, int n);
    }

    private static Supplier<SendTheBox> scene;
    private static List<Long> asItStands;

    public static void main(String[] args) {
        scenesStand();
        in(Scene::standing);
        rowsAndSets();
        copies();
        rules();
        tape();
        houseNumbers();
        statesAndSpaces();
        best();
        bestDays();
        dearJudge();
        byRule();
        allDaysByRule();
        joins();
        weeks();
        otherScenes();
        nothingIsRefused();
        Check.finish();
    }

    private static void in(Supplier<SendTheBox> s) {
        scene = s;
        asItStands = Scene.picture(s.get());
    }

    private static void refused(String what, int number, Call call) {
        SendTheBox x = scene.get();
        List<Long> counts = Scene.refusals(x);
        Check.due(what, call.on(x), number);
        counts.set(-2 - number, counts.get(-2 - number) + 1);
        Check.dueText(what + ": refusals -2 to -6", Scene.refusals(x).toString(), counts.toString());
        Check.dueText(what + ": all else", Scene.picture(x).toString(), asItStands.toString());
    }

    private static void bad(String what, CallWith call, int... numbers) {
        for (int n : numbers) {
            refused(what + " " + n, BAD, x -> call.on(x, n));
        }
    }

    /** BAD SHELF, each of those that are none. */
    private static void badShelf(String what, CallWith call) {
        bad(what + ", BAD SHELF", call, NO_SHELVES);
    }

    private static void badHouse(String what, CallWith call) {
        bad(what + ", BAD HOUSE", call, NO_HOUSES);
    }

    /** What the other tests here start from. */
    private static void scenesStand() {
        SendTheBox x = Scene.standing();
        int[] want = {5, 8, x.status(2), 7};
        for (int what = 0; what <= 3; what++) {
            Check.due("status(" + what + ")", x.status(what), want[what]);
        }
        Check.dueText("refusals", Scene.refusals(x).toString(), "[0, 0, 0, 0, 0]");
        Check.due("days left of the week", x.week(0), 2);
        Check.due("one house more", Scene.fullOfHouses().status(0), 6);
        Check.due("a full tape", Scene.fullTape().status(1), 160);
        Check.due("which is a house", Scene.fullTape().house(), 5);
        Check.due("a week that is over", Scene.weekOver().week(0), 0);
    }

    private static void rowsAndSets() {
        badShelf("row", (x, n) -> x.row(n, 0, 1));
        bad("row, BAD SORT", (x, n) -> x.row(0, n, 1), -1, 5, LOW, HIGH);
        bad("row, BAD n", (x, n) -> x.row(0, 0, n), -1, 126, LOW, HIGH);
        badShelf("set", (x, n) -> x.set(n, 0, 1));
        badShelf("set, and BAD i", (x, n) -> x.set(n, -1, 1));
        refused("set, OTHER", OTHER, x -> x.set(Scene.FULL, 0, 1));
        refused("set, OTHER ahead of BAD i", OTHER, x -> x.set(Scene.TOLD, 125, 1));
        refused("set, NOTHING", NONE_THERE, x -> x.set(Scene.NOTHING, 0, 1));
        refused("set, NOTHING ahead of BAD i", NONE_THERE, x -> x.set(Scene.NOTHING, -1, 1));
        bad("set, BAD i", (x, n) -> x.set(Scene.BYTES, n, 1), -1, 5, 125, LOW, HIGH);
        bad("set, BAD i of a ROW of 0", (x, n) -> x.set(Scene.EMPTY, n, 1), -1, 0, 1);
    }

    private static void copies() {
        badShelf("copy from", (x, n) -> x.copy(n, Scene.BYTES, 0, 0, 1));
        badShelf("copy to", (x, n) -> x.copy(Scene.BYTES, n, 0, 0, 1));
        badShelf("copy, BAD ahead of OTHER", (x, n) -> x.copy(Scene.FULL, n, 0, 0, 1));
        badShelf("copy, BAD ahead of NOTHING", (x, n) -> x.copy(n, Scene.NOTHING, 0, 0, 1));
        refused("copy of a RULE", OTHER, x -> x.copy(Scene.FULL, Scene.BYTES, 0, 0, 1));
        refused("copy to a RULE", OTHER, x -> x.copy(Scene.BYTES, Scene.FULL, 0, 0, 1));
        refused("copy, ROWS of two SORTS", OTHER, x -> x.copy(Scene.BYTES, Scene.SHORTS, 0, 0, 1));
        refused("copy, two SORTS ahead of BAD n", OTHER, x -> x.copy(Scene.SHORTS, Scene.BYTES, 0, 0, -1));
        refused("copy, two SORTS, no elements", OTHER, x -> x.copy(Scene.EMPTY, Scene.BYTES, 0, 0, 0));
        refused("copy, OTHER ahead of NOTHING", OTHER, x -> x.copy(Scene.BEST, Scene.NOTHING, 0, 0, 1));
        refused("copy, OTHER behind NOTHING", OTHER, x -> x.copy(Scene.NOTHING, Scene.BEST, 0, 0, 1));
        refused("copy of NOTHING", NONE_THERE, x -> x.copy(Scene.NOTHING, Scene.BYTES, 0, 0, 1));
        refused("copy to NOTHING", NONE_THERE, x -> x.copy(Scene.BYTES, Scene.NOTHING, 0, 0, 1));
        refused("copy of NOTHING to itself", NONE_THERE, x -> x.copy(Scene.NOTHING, Scene.NOTHING, 0, 0, 1));
        refused("copy, NOTHING ahead of BAD n", NONE_THERE, x -> x.copy(Scene.BYTES, Scene.NOTHING, 0, 0, 126));
        bad("copy, BAD i", (x, n) -> x.copy(Scene.BYTES, Scene.BYTES, n, 0, 1), -1, 5, LOW, HIGH);
        bad("copy, BAD j", (x, n) -> x.copy(Scene.BYTES, Scene.BYTES, 0, n, 1), -1, 5, LOW, HIGH);
        bad("copy, BAD n", (x, n) -> x.copy(Scene.BYTES, Scene.BYTES, 0, 0, n), -1, 6, LOW, HIGH);
        bad("copy, n past the end of p", (x, n) -> x.copy(Scene.BYTES, Scene.BYTES, 2, 0, n), 4, HIGH);
        bad("copy, n past the end of q", (x, n) -> x.copy(Scene.BYTES, Scene.BYTES, 0, 2, n), 4, HIGH);
        bad("copy, i of a ROW of 0", (x, n) -> x.copy(Scene.EMPTY, Scene.EMPTY, 0, 0, n), 1, -1);
    }

    private static void rules() {
        badShelf("rule", (x, n) -> x.rule(n, 1, 1));
        badShelf("rule, BAD ahead of OTHER", (x, n) -> x.rule(n, 5, Scene.FULL));
        bad("rule, BAD KIND", (x, n) -> x.rule(7, n, 1), -1, 0, 6, LOW, HIGH);
        bad("rule FULL, BAD a", (x, n) -> x.rule(7, 1, n), -1, 100, LOW, HIGH);
        bad("rule DAY, BAD a", (x, n) -> x.rule(7, 2, n), -1, 0, 7, LOW, HIGH);
        bad("rule BOTH, BAD a", (x, n) -> x.rule(7, 3, n), -1, -9, 0, 7, 8, 9, 10, 17, 990, 997, 1000, 1001, LOW, HIGH);
        bad("rule TOLD, BAD a", (x, n) -> x.rule(7, 5, n), NO_SHELVES);
        refused("rule TOLD of a RULE", OTHER, x -> x.rule(7, 5, Scene.BEST));
        refused("rule TOLD of a TOLD RULE", OTHER, x -> x.rule(7, 5, Scene.TOLD));
        refused("rule TOLD of NOTHING", NONE_THERE, x -> x.rule(0, 5, Scene.NOTHING));
        refused("rule TOLD of the SHELF itself", NONE_THERE, x -> x.rule(7, 5, 7));
        badShelf("says", (x, n) -> x.says(n, 0));
        bad("says, BAD KIND", (x, n) -> x.says(Scene.FULL, n), -1, 6, LOW, HIGH);
        bad("says, BAD KIND ahead of OTHER", (x, n) -> x.says(Scene.BYTES, n), -1, 6);
        bad("says, BAD KIND ahead of NOTHING", (x, n) -> x.says(Scene.NOTHING, n), -1, 6);
        for (int kind = 0; kind <= 5; kind++) {
            int k = kind;
            refused("says of a ROW", OTHER, x -> x.says(Scene.BYTES, k));
            refused("says of NOTHING", NONE_THERE, x -> x.says(Scene.NOTHING, k));
        }
        int[][] others = {{Scene.FULL, 2, 3, 4, 5}, {Scene.BOTH, 2, 4, 5}, {Scene.BEST, 1, 2, 3, 5}, {Scene.TOLD, 1, 2, 3, 4}};
        for (int[] o : others) {
            for (int i = 1; i < o.length; i++) {
                int kind = o[i];
                refused("says of shelf " + o[0] + " as of KIND " + kind, OTHER, x -> x.says(o[0], kind));
            }
        }
    }

    private static void tape() {
        bad("feed, BAD n", (x, n) -> x.feed(1, n), -1, 0, 5, LOW, HIGH);
        in(Scene::fullTape);
        for (int n = 1; n <= 4; n++) {
            int bytes = n;
            refused("feed, FULL", OVERFULL, x -> x.feed(32, bytes));
        }
        bad("feed, BAD ahead of FULL", (x, n) -> x.feed(32, n), 0, 5);
        in(Scene::fullOfHouses);
        refused("house, FULL", OVERFULL, SendTheBox::house);
        in(Scene::standing);
    }

    private static void houseNumbers() {
        badHouse("houseOf", (x, n) -> x.houseOf(n, 0));
        bad("houseOf, BAD what", (x, n) -> x.houseOf(0, n), -1, 5, LOW, HIGH);
        badHouse("sortOf", (x, n) -> x.sortOf(n, 0, 0));
        bad("sortOf, BAD SORT", (x, n) -> x.sortOf(Scene.TWO, n, 0), -1, 2, LOW, HIGH);
        bad("sortOf, BAD SORT of one", (x, n) -> x.sortOf(Scene.ONE, n, 0), 1, 2);
        bad("sortOf, BAD SORT of three", (x, n) -> x.sortOf(Scene.THREE, n, 0), 3);
        bad("sortOf, BAD what", (x, n) -> x.sortOf(0, 0, n), -1, 5, LOW, HIGH);
        badHouse("alter", (x, n) -> x.alter(n, 0, 1));
        bad("alter, BAD what", (x, n) -> x.alter(0, n, 1), -1, 3, LOW, HIGH);
        bad("alter box, BAD v", (x, n) -> x.alter(0, 0, n), -1, 100, LOW, HIGH);
        bad("alter room, BAD v", (x, n) -> x.alter(0, 1, n), -1, 0, 41, LOW, HIGH);
        bad("alter full, BAD v", (x, n) -> x.alter(0, 2, n), -1, 4, LOW, HIGH);
        badHouse("change", (x, n) -> x.change(n, 0, 0, 1));
        bad("change, BAD SORT", (x, n) -> x.change(Scene.TWO, n, 0, 1), -1, 2, LOW, HIGH);
        bad("change, BAD what", (x, n) -> x.change(0, 0, n, 1), -1, 4, LOW, HIGH);
        bad("change comes, BAD v", (x, n) -> x.change(0, 0, 0, n), -1, 5, LOW, HIGH);
        bad("change hold, BAD v", (x, n) -> x.change(0, 0, 1, n), -1, 10, LOW, HIGH);
        bad("change refuse, BAD v", (x, n) -> x.change(0, 0, 2, n), -1, 100, LOW, HIGH);
        bad("change left, BAD v", (x, n) -> x.change(0, 0, 3, n), -1, 100, LOW, HIGH);
    }

    private static void statesAndSpaces() {
        bad("of, BAD STATE", (x, n) -> x.of(n, 0), -1, 125, LOW, HIGH);
        bad("of, BAD SORT", (x, n) -> x.of(0, n), -1, 3, LOW, HIGH);
        badHouse("space", (x, n) -> x.space(n, 0));
        badHouse("fill", (x, n) -> x.fill(n, 0));
        badState("space", (x, h, left, state) -> x.space(h, state));
        badState("fill", (x, h, left, state) -> x.fill(h, state));
        badHouse("scale", (x, n) -> x.scale(n, 0));
        badDays("scale", 0, (x, h, left, state) -> x.scale(h, left));
    }

    /** A call on a house with so many days left in a state. */
    private interface PlaceCall {
        long on(SendTheBox x, int house, int left, int state);
    }

    /** States that the house can't have: one below 0, one past the last. */
    private static void badState(String what, PlaceCall call) {
        int[][] none = {{Scene.ONE, 1, -1, 5, 124}, {Scene.TWO, 3, -1, 25, 124}, {Scene.THREE, 6, -1, 125, LOW, HIGH}};
        for (int[] h : none) {
            for (int i = 2; i < h.length; i++) {
                int state = h[i];
                refused(what + ", BAD STATE " + state + " of house " + h[0], BAD, x -> call.on(x, h[0], h[1], state));
            }
        }
    }

    /** Days left that may not be: one less than the least, one more than days. */
    private static void badDays(String what, int least, PlaceCall call) {
        int[][] none = {{Scene.ONE, least - 1, 2, 6}, {Scene.TWO, least - 1, 4, 6}, {Scene.THREE, least - 1, 7, LOW, HIGH}};
        for (int[] h : none) {
            for (int i = 1; i < h.length; i++) {
                int left = h[i];
                refused(what + ", BAD DAYS " + left + " of house " + h[0], BAD, x -> call.on(x, h[0], left, 0));
            }
        }
    }

    private static void badPlace(String what, int least, PlaceCall call) {
        badHouse(what, (x, n) -> call.on(x, n, 1, 0));
        badDays(what, least, call);
        badState(what, call);
    }

    private static void best() {
        badPlace("cost", 0, SendTheBox::cost);
        badPlace("best", 1, SendTheBox::best);
        badPlace("waits", 1, SendTheBox::waits);
        badPlace("once", 1, SendTheBox::once);
    }

    private static void bestDays() {
        badHouse("promise", (x, n) -> x.promise(n, 1));
        badHouse("shape", (x, n) -> x.shape(n, 1));
        badHouse("odd", (x, n) -> x.odd(n, 1));
        badHouse("plain", (x, n) -> x.plain(n));
        badHouse("every", (x, n) -> x.every(n));
        badDays("promise", 1, (x, h, left, state) -> x.promise(h, left));
        badDays("shape", 1, (x, h, left, state) -> x.shape(h, left));
        badDays("odd", 1, (x, h, left, state) -> x.odd(h, left));
    }

    private static void dearJudge() {
        badPlace("dear", 0, (x, h, left, state) -> x.dear(h, left, state, 0));
        bad("dear, BAD SORT", (x, n) -> x.dear(Scene.TWO, 1, 0, n), -1, 2, LOW, HIGH);
        bad("dear, BAD SORT of one", (x, n) -> x.dear(Scene.ONE, 1, 0, n), 1);
        bad("dear, 4 of sort 0 STAND", (x, n) -> x.dear(Scene.THREE, 1, n, 0), 4, 9, 124);
        bad("dear, 4 of sort 1 STAND", (x, n) -> x.dear(Scene.THREE, 0, n, 1), 20, 24, 124);
        bad("dear, 4 of sort 2 STAND", (x, n) -> x.dear(Scene.THREE, 6, n, 2), 100, 124);
        badHouse("judge", (x, n) -> x.judge(n, 0, Scene.BYTES));
        badState("judge", (x, h, left, state) -> x.judge(h, state, Scene.BYTES));
        badShelf("judge", (x, n) -> x.judge(0, 0, n));
        badHouse("judge, BAD ahead of OTHER", (x, n) -> x.judge(n, 0, Scene.FULL));
        bad("judge, BAD STATE ahead of NOTHING", (x, n) -> x.judge(Scene.TWO, n, Scene.NOTHING), -1, 25);
        refused("judge of a RULE", OTHER, x -> x.judge(0, 0, Scene.BEST));
        refused("judge of NOTHING", NONE_THERE, x -> x.judge(0, 0, Scene.NOTHING));
        bad("judge, no elements", (x, h) -> x.judge(h, 0, Scene.EMPTY), Scene.ONE, Scene.TWO, Scene.THREE);
        in(RefusalsTest::rowsOfOneAndTwo);
        bad("judge, fewer elements than SORTS", (x, n) -> x.judge(Scene.TWO, 24, n), Scene.SHORTS);
        bad("judge, fewer elements than SORTS", (x, n) -> x.judge(Scene.THREE, 124, n), Scene.SHORTS, Scene.BYTES);
        in(Scene::standing);
    }

    private static SendTheBox rowsOfOneAndTwo() {
        SendTheBox x = Scene.standing();
        x.row(Scene.SHORTS, 1, 1);
        x.row(Scene.BYTES, 0, 2);
        return x;
    }

    /** A call by the rule in a shelf. */
    private interface RuleCall {
        long on(SendTheBox x, int house, int left, int state, int s);
    }

    private static void badRule(String what, RuleCall call) {
        badShelf(what, (x, s) -> call.on(x, Scene.TWO, 1, 0, s));
        badHouse(what + ", BAD ahead of OTHER", (x, n) -> call.on(x, n, 1, 0, Scene.BYTES));
        badHouse(what + ", BAD ahead of NOTHING", (x, n) -> call.on(x, n, 1, 0, Scene.NOTHING));
        refused(what + ", OTHER", OTHER, x -> call.on(x, Scene.TWO, 1, 0, Scene.BYTES));
        refused(what + ", OTHER, a ROW of 0", OTHER, x -> call.on(x, Scene.TWO, 1, 0, Scene.EMPTY));
        refused(what + ", NOTHING", NONE_THERE, x -> call.on(x, Scene.TWO, 1, 0, Scene.NOTHING));
    }

    private static void byRule() {
        byRule("load", 1, SendTheBox::load);
        byRule("mean", 0, SendTheBox::mean);
        byRule("lose", 0, SendTheBox::lose);
        byRule("chance", 0, SendTheBox::chance);
    }

    private static void byRule(String what, int least, RuleCall call) {
        badRule(what, call);
        for (int s : new int[] {Scene.FULL, Scene.BEST, Scene.BYTES, Scene.NOTHING}) {
            badPlace(what + " by shelf " + s, least, (x, h, left, state) -> call.on(x, h, left, state, s));
        }
    }

    private static void allDaysByRule() {
        badRule("reach", (x, h, left, state, s) -> x.reach(h, left, s));
        badRule("held", (x, h, left, state, s) -> x.held(h, 0, s));
        badRule("boxes", (x, h, left, state, s) -> x.boxes(h, s));
        badRule("begin", (x, h, left, state, s) -> x.begin(h, s));
        badRule("weeks", (x, h, left, state, s) -> x.weeks(h, s, 1));
        for (int s : new int[] {Scene.FULL, Scene.BYTES, Scene.NOTHING}) {
            badDays("reach by shelf " + s, 0, (x, h, left, state) -> x.reach(h, left, s));
            bad("held, BAD SORT", (x, n) -> x.held(Scene.TWO, n, s), -1, 2, LOW, HIGH);
            bad("held, BAD SORT of one", (x, n) -> x.held(Scene.ONE, n, s), 1);
            bad("weeks, BAD n", (x, n) -> x.weeks(Scene.TWO, s, n), -1, 0, 51, LOW, HIGH);
        }
        badHouse("boy", (x, n) -> x.boy(n));
    }

    private static void joins() {
        badHouse("join", (x, n) -> x.join(n, Scene.TWO));
        badHouse("join with", (x, n) -> x.join(Scene.TWO, n));
        badHouse("saved", (x, n) -> x.saved(n, Scene.TWO));
        badHouse("saved with", (x, n) -> x.saved(Scene.TWO, n));
        for (int house = 0; house < 5; house++) {
            int h = house;
            refused("join with itself", BAD, x -> x.join(h, h));
            refused("saved with itself", BAD, x -> x.saved(h, h));
        }
        int[][] stuck = {{Scene.TWO, Scene.ONE}, {Scene.ONE, Scene.TWO}, {Scene.TWO, Scene.WIDE}, {Scene.WIDE, Scene.TWO},
            {Scene.ONE, Scene.FIT}, {Scene.THREE, Scene.FIT}};
        for (int[] p : stuck) {
            refused("join " + p[0] + " " + p[1], STUCK, x -> x.join(p[0], p[1]));
            refused("saved " + p[0] + " " + p[1], STUCK, x -> x.saved(p[0], p[1]));
        }
        in(Scene::fullOfHouses);
        refused("join, FULL", OVERFULL, x -> x.join(Scene.TWO, Scene.FIT));
        refused("join, STUCK ahead of FULL", STUCK, x -> x.join(Scene.TWO, Scene.ONE));
        bad("join, BAD ahead of FULL", (x, n) -> x.join(Scene.TWO, n), -1, Scene.TWO, 6);
        in(Scene::standing);
    }

    private static void weeks() {
        bad("step, BAD n", (x, n) -> x.step(n), -1, 0, 7, LOW, HIGH);
        bad("week, BAD what", (x, n) -> x.week(n), -1, 6, LOW, HIGH);
        in(Scene::weekOver);
        for (int n = 1; n <= 6; n++) {
            int days = n;
            refused("step, none is left", STUCK, x -> x.step(days));
        }
        bad("step, BAD ahead of STUCK", (x, n) -> x.step(n), 0, 7);
    }

    private static void otherScenes() {
        in(Scene::early);
        refused("step, none is under way", STUCK, x -> x.step(1));
        bad("step, BAD ahead of STUCK", (x, n) -> x.step(n), 0, 7);
        for (int what = 0; what <= 5; what++) {
            int w = what;
            refused("week, none is under way", STUCK, x -> x.week(w));
        }
        bad("week, BAD ahead of STUCK", (x, n) -> x.week(n), -1, 6);
        refused("back, nothing was kept", STUCK, SendTheBox::back);
        refused("begin, a ROW", OTHER, x -> x.begin(0, Scene.BYTES));
        refused("begin, NOTHING", NONE_THERE, x -> x.begin(0, Scene.NOTHING));
        in(Scene::noRules);
        refused("boy, no SHELF holds a RULE", STUCK, x -> x.boy(0));
        badHouse("boy, BAD ahead of STUCK", (x, n) -> x.boy(n));
        in(SendTheBox::new);
        bad("no HOUSE at first", (x, n) -> x.cost(n, 0, 0), -1, 0, 1);
        refused("no ROW at first", NONE_THERE, x -> x.set(0, 0, 0));
        refused("boy, no HOUSE ahead of no RULE", BAD, x -> x.boy(0));
        refused("begin, no HOUSE ahead of NOTHING", BAD, x -> x.begin(0, 0));
        houseFaults();
    }

    /** A tape that is no house is refused as BAD, and empty then. */
    private static void houseFaults() {
        for (String text : new String[] {"", "days 7", "box 1", "sort room 1 comes 1 hold 1;"}) {
            SendTheBox x = Scene.standing();
            x.wipe();
            Check.feedText(x, text);
            List<Long> counts = Scene.refusals(x);
            Check.due("house of '" + text + "'", x.house(), -20 - (text.equals("days 7") ? 5 : text.length()));
            counts.set(0, counts.get(0) + 1);
            Check.dueText("refusals", Scene.refusals(x).toString(), counts.toString());
            Check.due("the tape is empty", x.status(1), 0);
            SendTheBox y = Scene.standing();
            y.wipe();
            Check.dueText("all else", Scene.picture(x).toString(), Scene.picture(y).toString());
        }
    }

    /** Calls that answer something for any number, and refuse nothing. */
    private static void nothingIsRefused() {
        List<Call> calls = new ArrayList<>();
        for (int n : new int[] {-1, 0, 5, 7, 8, 11, 17, 125, LOW, HIGH}) {
            calls.add(x -> x.element(n, 0));
            calls.add(x -> x.element(0, n));
            calls.add(x -> x.element(Scene.FULL, n));
            calls.add(x -> x.element(Scene.NOTHING, n));
            calls.add(x -> x.holds(n));
            calls.add(x -> x.status(n));
            calls.add(x -> x.seed(n));
        }
        calls.add(SendTheBox::wipe);
        calls.add(SendTheBox::image);
        calls.add(SendTheBox::back);
        SendTheBox x = Scene.standing();
        List<Long> counts = Scene.refusals(x);
        for (Call call : calls) {
            call.on(x);
        }
        Check.dueText("nothing is refused", Scene.refusals(x).toString(), counts.toString());
    }
}
