/**
 * When to send the box: houses with sorts of parcels, what is best in them by what stands there and the days that
 * are left, rules for the boy at the door and what each costs. The document's promises say what each call answers.
 */
public final class SendTheBox {
    public static final int NONE = -1;

    private static final int BAD = -2;
    private static final int OTHER = -3;
    private static final int NOTHING = -4;
    private static final int STUCK = -5;
    private static final int OVERFULL = -6;

    private static final int MOST_HOUSES = 6;
    private static final int MOST_SHELVES = 8;
    private static final int MOST_SORTS = 3;
    private static final int MOST_DAYS = 6;
    private static final int MOST_STANDING = 4;
    private static final int MOST_STATES = 125;
    private static final int MOST_BYTES = 160;
    private static final int MOST_WEEKS = 50;
    private static final int QUARTERS = 4;

    // The numbers of a house, as houseOf() counts them.
    private static final int OF_DAYS = 0;
    private static final int OF_BOX = 1;
    private static final int OF_ROOM = 2;
    private static final int OF_FULL = 3;
    private static final int OF_SORTS = 4;
    private static final int HOUSE_NUMBERS = 5;

    // The numbers of a sort, as sortOf() counts them.
    private static final int ITS_ROOM = 0;
    private static final int ITS_COMES = 1;
    private static final int ITS_HOLD = 2;
    private static final int ITS_REFUSE = 3;
    private static final int ITS_LEFT = 4;
    private static final int SORT_NUMBERS = 5;

    private static final int ANY_RULE = 0;
    private static final int FULL_RULE = 1;
    private static final int DAY_RULE = 2;
    private static final int BOTH_RULE = 3;
    private static final int BEST_RULE = 4;
    private static final int TOLD_RULE = 5;

    private static final int BYTES = 0;
    private static final int SHORTS = 1;
    private static final int INTS = 2;
    private static final int BOOLEANS = 4;

    private final World world = new World();
    private final World kept = new World();
    private boolean hasKept;
    private final Tape tape = new Tape();
    private final Row[] rows = new Row[MOST_SHELVES];
    private final Rule[] rules = new Rule[MOST_SHELVES];
    private final int[] refusals = new int[5];
    private final Plan[] plans = new Plan[MOST_HOUSES];
    private final Plan weekPlan = new Plan();
    private final Plan joinedPlan = new Plan();
    private final House draft = new House();
    private final Week spareWeek = new Week();

    public SendTheBox() {
        for (int i = 0; i < plans.length; i++) {
            plans[i] = new Plan();
        }
    }

    // ---- shelves

    public int row(int s, int sort, int n) {
        if (!isShelf(s) || sort < BYTES || sort > BOOLEANS || n < 0 || n > MOST_STATES) {
            return refuse(BAD);
        }
        putOnShelf(s, new Row(sort, n), null);
        return 1;
    }

    public int set(int s, int i, long v) {
        if (!isShelf(s)) {
            return refuse(BAD);
        }
        Row row = rowAt(s);
        if (row == null) {
            return refuse(lackOnShelf(s));
        }
        if (!row.hasPlace(i)) {
            return refuse(BAD);
        }
        row.put(i, v);
        return 1;
    }

    public int copy(int p, int q, int i, int j, int n) {
        if (!isShelf(p) || !isShelf(q)) {
            return refuse(BAD);
        }
        if (ruleAt(p) != null || ruleAt(q) != null) {
            return refuse(OTHER);
        }
        Row from = rowAt(p);
        Row to = rowAt(q);
        if (from == null || to == null) {
            return refuse(NOTHING);
        }
        if (from.sort != to.sort) {
            return refuse(OTHER);
        }
        if (!from.hasRange(i, n) || !to.hasRange(j, n)) {
            return refuse(BAD);
        }
        to.take(from, i, j, n);
        return n;
    }

    public long element(int s, int i) {
        Row row = rowAt(s);
        return row == null ? 0 : row.valueAt(i);
    }

    public int holds(int s) {
        Row row = rowAt(s);
        if (row != null) {
            return row.sort;
        }
        Rule rule = ruleAt(s);
        return rule == null ? NONE : 10 + rule.kind;
    }

    public int rule(int s, int kind, int a) {
        if (!isShelf(s) || !Rule.mayBe(kind, a)) {
            return refuse(BAD);
        }
        Row told = null;
        if (kind == TOLD_RULE) {
            told = rowAt(a);
            if (told == null) {
                return refuse(lackOnShelf(a));
            }
        }
        putOnShelf(s, null, new Rule(kind, a, told));
        return 1;
    }

    public int says(int s, int kind) {
        if (!isShelf(s) || kind < ANY_RULE || kind > TOLD_RULE) {
            return refuse(BAD);
        }
        Rule rule = ruleAt(s);
        if (rule == null) {
            return refuse(lackOnShelf(s));
        }
        return rule.isOfKind(kind) ? rule.numberAs(kind) : refuse(OTHER);
    }

    // ---- the tape and the houses

    public int feed(int v, int n) {
        if (n < 1 || n > 4) {
            return refuse(BAD);
        }
        return tape.hasPlaceFor(n) ? tape.append(v, n) : refuse(OVERFULL);
    }

    public int wipe() {
        return tape.clear();
    }

    public int house() {
        if (world.isFull()) {
            return refuse(OVERFULL);
        }
        int fault = tape.readInto(draft);
        tape.clear();
        if (fault == NONE) {
            return world.add(draft);
        }
        refuse(BAD);
        return -20 - fault;
    }

    public int houseOf(int house, int what) {
        House h = world.houseAt(house);
        if (h == null || what < 0 || what >= HOUSE_NUMBERS) {
            return refuse(BAD);
        }
        return h.number(what);
    }

    public int sortOf(int house, int sort, int what) {
        House h = world.houseAt(house);
        if (h == null || !h.hasSort(sort) || what < 0 || what >= SORT_NUMBERS) {
            return refuse(BAD);
        }
        return h.sortNumber(sort, what);
    }

    public int alter(int house, int what, int v) {
        House h = world.houseAt(house);
        int number = OF_BOX + what;
        if (h == null || what < 0 || what > 2 || !House.mayBe(number, v)) {
            return refuse(BAD);
        }
        int ahead = h.number(number);
        h.putNumber(number, v);
        return ahead;
    }

    public int change(int house, int sort, int what, int v) {
        House h = world.houseAt(house);
        int number = ITS_COMES + what;
        if (h == null || !h.hasSort(sort) || what < 0 || what > 3 || !House.mayBeOfSort(number, v)) {
            return refuse(BAD);
        }
        int ahead = h.sortNumber(sort, number);
        h.putSortNumber(sort, number, v);
        return ahead;
    }

    // ---- what is best

    public int of(int state, int sort) {
        if (state < 0 || state >= MOST_STATES || sort < 0 || sort >= MOST_SORTS) {
            return refuse(BAD);
        }
        return standing(state, sort);
    }

    public int space(int house, int state) {
        Plan plan = planOf(house);
        if (plan == null || !plan.hasState(state)) {
            return refuse(BAD);
        }
        return plan.roomOf(state);
    }

    public long scale(int house, int left) {
        House h = world.houseAt(house);
        if (h == null || left < 0 || left > h.days()) {
            return refuse(BAD);
        }
        return scaleOf(left, h.sorts());
    }

    public long cost(int house, int left, int state) {
        Plan plan = planOf(house);
        if (plan == null || !plan.hasPlace(left, state)) {
            return refuse(BAD);
        }
        return plan.leastCost(left, state);
    }

    public int best(int house, int left, int state) {
        Plan plan = planOf(house);
        if (plan == null || !plan.hasDay(left, state)) {
            return refuse(BAD);
        }
        return plan.bestLoad(left, state);
    }

    public int fill(int house, int state) {
        Plan plan = planOf(house);
        if (plan == null || !plan.hasState(state)) {
            return refuse(BAD);
        }
        return plan.fillOf(state);
    }

    public long waits(int house, int left, int state) {
        Plan plan = planOf(house);
        if (plan == null || !plan.hasDay(left, state)) {
            return refuse(BAD);
        }
        return plan.costWith(left, state, 0) - plan.leastCost(left, state);
    }

    public long once(int house, int left, int state) {
        Plan plan = planOf(house);
        if (plan == null || !plan.hasDay(left, state)) {
            return refuse(BAD);
        }
        return plan.costWith(left, state, plan.fillOf(state)) - plan.leastCost(left, state);
    }

    public long dear(int house, int left, int state, int sort) {
        Plan plan = planOf(house);
        if (plan == null || !plan.hasPlace(left, state) || !plan.hasSort(sort)
                || standing(state, sort) >= MOST_STANDING) {
            return refuse(BAD);
        }
        return plan.leastCost(left, state + oneOf(sort)) - plan.leastCost(left, state);
    }

    public long promise(int house, int left) {
        Plan plan = planOf(house);
        if (plan == null || !plan.hasDay(left, 0)) {
            return refuse(BAD);
        }
        return plan.costOfPromise(left) - plan.leastCost(plan.days, 0);
    }

    public int shape(int house, int left) {
        Plan plan = planOf(house);
        if (plan == null || !plan.hasDay(left, 0)) {
            return refuse(BAD);
        }
        return plan.bar(left);
    }

    public int odd(int house, int left) {
        Plan plan = planOf(house);
        if (plan == null || !plan.hasDay(left, 0)) {
            return refuse(BAD);
        }
        return plan.oddState(left);
    }

    public int judge(int house, int state, int s) {
        Plan plan = planOf(house);
        if (plan == null || !plan.hasState(state) || !isShelf(s)) {
            return refuse(BAD);
        }
        Row row = rowAt(s);
        if (row == null) {
            return refuse(lackOnShelf(s));
        }
        return row.size() < plan.sorts ? refuse(BAD) : plan.judgeOf(row, state);
    }

    // ---- what rules do

    public int load(int house, int left, int state, int s) {
        Plan plan = planOf(house);
        if (plan == null || !plan.hasDay(left, state) || !isShelf(s)) {
            return refuse(BAD);
        }
        Rule rule = ruleFor(plan, s);
        return rule == null ? refuse(lackOnShelf(s)) : plan.loadBy(rule, left, state);
    }

    public long mean(int house, int left, int state, int s) {
        Plan plan = planOf(house);
        if (plan == null || !plan.hasPlace(left, state) || !isShelf(s)) {
            return refuse(BAD);
        }
        Rule rule = ruleFor(plan, s);
        return rule == null ? refuse(lackOnShelf(s)) : plan.costBy(rule, left, state);
    }

    public long lose(int house, int left, int state, int s) {
        Plan plan = planOf(house);
        if (plan == null || !plan.hasPlace(left, state) || !isShelf(s)) {
            return refuse(BAD);
        }
        Rule rule = ruleFor(plan, s);
        if (rule == null) {
            return refuse(lackOnShelf(s));
        }
        return plan.costBy(rule, left, state) - plan.leastCost(left, state);
    }

    public int boy(int house) {
        Plan plan = planOf(house);
        if (plan == null) {
            return refuse(BAD);
        }
        int first = NONE;
        long least = 0;
        for (int s = 0; s < MOST_SHELVES; s++) {
            Rule rule = ruleFor(plan, s);
            if (rule != null) {
                long price = plan.costBy(rule, plan.days, 0);
                if (first == NONE || price < least) {
                    first = s;
                    least = price;
                }
            }
        }
        return first == NONE ? refuse(STUCK) : first;
    }

    public long chance(int house, int left, int state, int s) {
        Plan plan = planOf(house);
        if (plan == null || !plan.hasPlace(left, state) || !isShelf(s)) {
            return refuse(BAD);
        }
        Rule rule = ruleFor(plan, s);
        return rule == null ? refuse(lackOnShelf(s)) : plan.chanceBy(rule, left, state);
    }

    public int reach(int house, int left, int s) {
        Plan plan = planOf(house);
        if (plan == null || !plan.hasPlace(left, 0) || !isShelf(s)) {
            return refuse(BAD);
        }
        Rule rule = ruleFor(plan, s);
        return rule == null ? refuse(lackOnShelf(s)) : plan.statesBy(rule, left);
    }

    public long held(int house, int sort, int s) {
        Plan plan = planOf(house);
        if (plan == null || !plan.hasSort(sort) || !isShelf(s)) {
            return refuse(BAD);
        }
        Rule rule = ruleFor(plan, s);
        return rule == null ? refuse(lackOnShelf(s)) : plan.heldBy(rule, sort);
    }

    public long boxes(int house, int s) {
        Plan plan = planOf(house);
        if (plan == null || !isShelf(s)) {
            return refuse(BAD);
        }
        Rule rule = ruleFor(plan, s);
        return rule == null ? refuse(lackOnShelf(s)) : plan.boxesBy(rule);
    }

    public int plain(int house) {
        Plan plan = planOf(house);
        return plan == null ? refuse(BAD) : plan.bestFullRule();
    }

    public int every(int house) {
        Plan plan = planOf(house);
        return plan == null ? refuse(BAD) : plan.bestDayRule();
    }

    // ---- houses that share a box

    public int join(int house, int other) {
        House first = world.houseAt(house);
        House second = world.houseAt(other);
        if (first == null || second == null || house == other) {
            return refuse(BAD);
        }
        if (!first.goesWith(second)) {
            return refuse(STUCK);
        }
        if (world.isFull()) {
            return refuse(OVERFULL);
        }
        draft.become(first);
        draft.addSortsOf(second);
        return world.add(draft);
    }

    public long saved(int house, int other) {
        Plan first = planOf(house);
        Plan second = planOf(other);
        if (first == null || second == null || house == other) {
            return refuse(BAD);
        }
        if (!first.house.goesWith(second.house)) {
            return refuse(STUCK);
        }
        draft.become(first.house);
        draft.addSortsOf(second.house);
        joinedPlan.turnTo(draft);
        int days = draft.days();
        // Each cost has its own house's scale: what the other's sorts add to the joined one is still wanting.
        long apart = first.leastCost(days, 0) * timesOf(days * second.sorts)
                + second.leastCost(days, 0) * timesOf(days * first.sorts);
        return Math.max(0L, apart - joinedPlan.leastCost(days, 0));
    }

    // ---- weeks by draws

    public int seed(int v) {
        return world.changeSeed(v);
    }

    public int begin(int house, int s) {
        House h = world.houseAt(house);
        if (h == null || !isShelf(s)) {
            return refuse(BAD);
        }
        Rule rule = ruleAt(s);
        if (rule == null) {
            return refuse(lackOnShelf(s));
        }
        world.current.start(h, rule);
        return h.days();
    }

    public int step(int n) {
        if (n < 1 || n > MOST_DAYS) {
            return refuse(BAD);
        }
        Week week = world.current;
        if (!week.isUnderWay() || week.daysLeft() == 0) {
            return refuse(STUCK);
        }
        weekPlan.turnTo(week.house);
        weekPlan.getReadyFor(week.rule);
        return passDays(week, weekPlan, n);
    }

    public int week(int what) {
        if (what < 0 || what > 5) {
            return refuse(BAD);
        }
        return world.current.isUnderWay() ? world.current.number(what) : refuse(STUCK);
    }

    public int weeks(int house, int s, int n) {
        Plan plan = planOf(house);
        if (plan == null || !isShelf(s) || n < 1 || n > MOST_WEEKS) {
            return refuse(BAD);
        }
        Rule rule = ruleFor(plan, s);
        if (rule == null) {
            return refuse(lackOnShelf(s));
        }
        int coins = 0;
        for (int i = 0; i < n; i++) {
            spareWeek.start(plan.house, rule);
            coins += passDays(spareWeek, plan, MOST_DAYS);
        }
        return coins;
    }

    private int passDays(Week week, Plan plan, int n) {
        int coins = 0;
        for (int i = 0; i < n && week.daysLeft() > 0; i++) {
            coins += week.passDay(world, plan);
        }
        return coins;
    }

    // ---- the image, status

    public int image() {
        kept.become(world);
        hasKept = true;
        return 1;
    }

    public int back() {
        if (!hasKept) {
            return refuse(STUCK);
        }
        world.become(kept);
        return 1;
    }

    public int status(int what) {
        switch (what) {
            case 0:
                return world.count;
            case 1:
                return tape.size;
            case 2:
                return world.draws;
            case 3:
                return shelvesInUse();
            default:
                int refusal = what - 12;
                return refusal >= 0 && refusal < refusals.length ? refusals[refusal] : NONE;
        }
    }

    private int refuse(int refusal) {
        int place = BAD - refusal;
        if (place >= 0 && place < refusals.length) {
            refusals[place]++;
        }
        return refusal;
    }

    // ---- shelves inside

    private static boolean isShelf(int s) {
        return s >= 0 && s < MOST_SHELVES;
    }

    private Row rowAt(int s) {
        return s >= 0 && s < rows.length ? rows[s] : null;
    }

    private Rule ruleAt(int s) {
        return s >= 0 && s < rules.length ? rules[s] : null;
    }

    /** The rule on a shelf, for which the plan is ready then; null if there is none. */
    private Rule ruleFor(Plan plan, int s) {
        Rule rule = ruleAt(s);
        plan.getReadyFor(rule);
        return rule;
    }

    /** Why a shelf that has not what is wanted is refused. */
    private int lackOnShelf(int s) {
        return rowAt(s) == null && ruleAt(s) == null ? NOTHING : OTHER;
    }

    private void putOnShelf(int s, Row row, Rule rule) {
        if (s >= 0 && s < rows.length && s < rules.length) {
            rows[s] = row;
            rules[s] = rule;
        }
    }

    private int shelvesInUse() {
        int n = 0;
        for (int s = 0; s < MOST_SHELVES; s++) {
            if (rowAt(s) != null || ruleAt(s) != null) {
                n++;
            }
        }
        return n;
    }

    /** The plan of a house as it is now; null if there is no such house. */
    private Plan planOf(int number) {
        House h = world.houseAt(number);
        if (h == null || number < 0 || number >= plans.length) {
            return null;
        }
        Plan plan = plans[number];
        if (plan != null) {
            plan.turnTo(h);
        }
        return plan;
    }

    // ---- states, powers, places in arrays

    private static int standing(int state, int sort) {
        switch (sort) {
            case 0:
                return state % 5;
            case 1:
                return state / 5 % 5;
            case 2:
                return state / 25 % 5;
            default:
                return 0;
        }
    }

    /** The state in which one parcel of a sort stands. */
    private static int oneOf(int sort) {
        switch (sort) {
            case 0:
                return 1;
            case 1:
                return 5;
            case 2:
                return 25;
            default:
                return 0;
        }
    }

    /** 4 to a power. */
    private static long timesOf(int power) {
        return 1L << (2 * power);
    }

    private static long scaleOf(int left, int sorts) {
        return timesOf(left * (1 + sorts));
    }

    private static int at(int[] a, int i) {
        return i >= 0 && i < a.length ? a[i] : 0;
    }

    private static long at(long[] a, int i) {
        return i >= 0 && i < a.length ? a[i] : 0;
    }

    private static void put(int[] a, int i, int v) {
        if (i >= 0 && i < a.length) {
            a[i] = v;
        }
    }

    private static void put(long[] a, int i, long v) {
        if (i >= 0 && i < a.length) {
            a[i] = v;
        }
    }

    /** A row of one sort of elements; each is kept as the number that it is told as. */
    private static final class Row {
        private final int sort;
        private final long[] values;

        Row(int sort, int n) {
            this.sort = sort;
            this.values = new long[n > 0 ? n : 0];
        }

        int size() {
            return values.length;
        }

        boolean hasPlace(int i) {
            return i >= 0 && i < values.length;
        }

        boolean hasRange(int i, int n) {
            return i >= 0 && n >= 0 && i <= values.length && n <= values.length - i;
        }

        long valueAt(int i) {
            return at(values, i);
        }

        void put(int i, long v) {
            if (hasPlace(i)) {
                values[i] = lowestBits(v);
            }
        }

        private long lowestBits(long v) {
            switch (sort) {
                case BYTES:
                    return (byte) v;
                case SHORTS:
                    return (short) v;
                case INTS:
                    return (int) v;
                case BOOLEANS:
                    return v != 0 ? 1 : 0;
                default:
                    return v;
            }
        }

        void take(Row from, int i, int j, int n) {
            if (from != null && from.hasRange(i, n) && hasRange(j, n)) {
                System.arraycopy(from.values, i, values, j, n);
            }
        }

        Row twin() {
            Row twin = new Row(sort, values.length);
            twin.take(this, 0, 0, values.length);
            return twin;
        }
    }

    /** When the boy fills the box. What BEST puts in is its plan's to say. */
    private static final class Rule {
        private final int kind;
        private final int room;
        private final int days;
        private final Row told;

        Rule(int kind, int a, Row told) {
            this.kind = kind;
            this.room = kind == BOTH_RULE ? a / 10 : a;
            this.days = kind == BOTH_RULE ? a % 10 : a;
            // The rule goes on with the row as it was, whatever is put into it later.
            this.told = told == null ? null : told.twin();
        }

        static boolean mayBe(int kind, int a) {
            switch (kind) {
                case FULL_RULE:
                    return a >= 0 && a <= 99;
                case DAY_RULE:
                    return a >= 1 && a <= 6;
                case BOTH_RULE:
                    return a >= 0 && a / 10 <= 99 && a % 10 >= 1 && a % 10 <= 6;
                case BEST_RULE:
                    return true;
                case TOLD_RULE:
                    return isShelf(a);
                default:
                    return false;
            }
        }

        boolean isOfKind(int wanted) {
            return wanted == ANY_RULE || wanted == kind || wanted == FULL_RULE && kind == BOTH_RULE;
        }

        int numberAs(int wanted) {
            switch (wanted) {
                case FULL_RULE:
                    return room;
                case DAY_RULE:
                case BOTH_RULE:
                    return days;
                case BEST_RULE:
                    return 1;
                case TOLD_RULE:
                    return told == null ? 0 : told.size();
                default:
                    return 0;
            }
        }

        boolean fills(int left, int state, int roomThere) {
            switch (kind) {
                case FULL_RULE:
                    return roomThere >= room;
                case DAY_RULE:
                    return isItsDay(left);
                case BOTH_RULE:
                    return roomThere >= room || isItsDay(left);
                case TOLD_RULE:
                    return told != null && told.valueAt(state) != 0;
                default:
                    return false;
            }
        }

        private boolean isItsDay(int left) {
            return days > 0 && left % days == 0;
        }
    }

    /** The numbers of a house and of its sorts. */
    private static final class House {
        private final int[] numbers = new int[HOUSE_NUMBERS + MOST_SORTS * SORT_NUMBERS];

        /** As a house is before the tape tells anything. */
        void clear() {
            for (int i = 0; i < numbers.length; i++) {
                numbers[i] = 0;
            }
            putNumber(OF_DAYS, 3);
            putNumber(OF_BOX, 10);
            putNumber(OF_ROOM, 10);
        }

        void become(House other) {
            for (int i = 0; i < numbers.length; i++) {
                numbers[i] = at(other.numbers, i);
            }
        }

        boolean isLike(House other) {
            for (int i = 0; i < numbers.length; i++) {
                if (numbers[i] != at(other.numbers, i)) {
                    return false;
                }
            }
            return true;
        }

        static boolean mayBe(int what, int v) {
            switch (what) {
                case OF_DAYS:
                    return v >= 1 && v <= MOST_DAYS;
                case OF_BOX:
                    return v >= 0 && v <= 99;
                case OF_ROOM:
                    return v >= 1 && v <= 40;
                case OF_FULL:
                    return v >= 0 && v <= 3;
                default:
                    return false;
            }
        }

        static boolean mayBeOfSort(int what, int v) {
            switch (what) {
                case ITS_ROOM:
                    return v >= 1 && v <= 9;
                case ITS_COMES:
                    return v >= 0 && v <= QUARTERS;
                case ITS_HOLD:
                    return v >= 0 && v <= 9;
                case ITS_REFUSE:
                case ITS_LEFT:
                    return v >= 0 && v <= 99;
                default:
                    return false;
            }
        }

        int number(int what) {
            return what >= 0 && what < HOUSE_NUMBERS && what < numbers.length ? numbers[what] : 0;
        }

        void putNumber(int what, int v) {
            if (what < HOUSE_NUMBERS) {
                put(numbers, what, v);
            }
        }

        private static int placeOf(int sort, int what) {
            return HOUSE_NUMBERS + sort * SORT_NUMBERS + what;
        }

        int sortNumber(int sort, int what) {
            return at(numbers, placeOf(sort, what));
        }

        void putSortNumber(int sort, int what, int v) {
            put(numbers, placeOf(sort, what), v);
        }

        int days() {
            return number(OF_DAYS);
        }

        int sorts() {
            return number(OF_SORTS);
        }

        boolean hasSort(int sort) {
            return sort >= 0 && sort < sorts();
        }

        int states() {
            return sorts() < MOST_SORTS ? oneOf(sorts()) : MOST_STATES;
        }

        /** Of all that stands together: its room, what it costs to hold, or what it costs if left. */
        int sumOf(int state, int what) {
            int sum = 0;
            for (int sort = 0; sort < sorts(); sort++) {
                sum += standing(state, sort) * sortNumber(sort, what);
            }
            return sum;
        }

        boolean goesWith(House other) {
            return days() == other.days() && sorts() + other.sorts() <= MOST_SORTS;
        }

        void addSortsOf(House other) {
            for (int sort = 0; sort < other.sorts() && sorts() < MOST_SORTS; sort++) {
                for (int what = 0; what < SORT_NUMBERS; what++) {
                    putSortNumber(sorts(), what, other.sortNumber(sort, what));
                }
                putNumber(OF_SORTS, sorts() + 1);
            }
        }

        /** The load of sorts by hold, the greatest first. */
        int fillFor(int state) {
            int room = number(OF_ROOM);
            int filled = 0;
            for (int hold = 9; hold >= 0; hold--) {
                for (int sort = 0; sort < sorts(); sort++) {
                    int each = sortNumber(sort, ITS_ROOM);
                    if (sortNumber(sort, ITS_HOLD) == hold && each > 0) {
                        int n = Math.min(standing(state, sort), room / each);
                        room -= n * each;
                        filled += n * oneOf(sort);
                    }
                }
            }
            return filled;
        }
    }

    /** The bytes fed, and the reader of a house from them. */
    private static final class Tape {
        private static final int END = 0;
        private static final int WORD = 1;
        private static final int NUMBER = 2;
        private static final int SIGN = 3;
        private static final int STRANGE = 4;

        private final byte[] bytes = new byte[MOST_BYTES];
        private int size;
        // The token that is read next.
        private int kind;
        private int from;
        private int to;

        boolean hasPlaceFor(int n) {
            return n <= bytes.length - size;
        }

        int append(int v, int n) {
            for (int i = n - 1; i >= 0; i--) {
                if (size >= 0 && size < bytes.length) {
                    bytes[size] = (byte) (v >> (8 * i));
                    size++;
                }
            }
            return size;
        }

        int clear() {
            int ahead = size;
            size = 0;
            return ahead;
        }

        /** Reads a house from the whole tape: the fault's place, or NONE. */
        int readInto(House h) {
            h.clear();
            to = 0;
            advance();
            // A statement takes at least one byte: the bound is above what any tape can need.
            for (int i = 0; i <= MOST_BYTES; i++) {
                if (!readStatement(h)) {
                    return from;
                }
                if (kind == END) {
                    return h.sorts() > 0 ? NONE : size;
                }
                if (kind != SIGN) {
                    return from;
                }
                advance();
            }
            return from;
        }

        /** Reads a statement; if it can't, the token that can't stand there is still the next. */
        private boolean readStatement(House h) {
            if (isWord("days")) {
                return readHouseNumber(h, OF_DAYS);
            }
            if (isWord("box")) {
                return readHouseNumber(h, OF_BOX) && isWord("room") && readHouseNumber(h, OF_ROOM);
            }
            if (isWord("full")) {
                return readHouseNumber(h, OF_FULL);
            }
            return isWord("sort") && h.sorts() < MOST_SORTS && readSort(h);
        }

        private boolean readHouseNumber(House h, int what) {
            advance();
            int v = numberHere();
            if (v < 0 || !House.mayBe(what, v)) {
                return false;
            }
            h.putNumber(what, v);
            advance();
            return true;
        }

        private boolean readSort(House h) {
            advance();
            int sort = h.sorts();
            for (int what = 0; what < SORT_NUMBERS; what++) {
                boolean told = isWord(sortWord(what));
                if (!told && what < ITS_REFUSE) {
                    return false;
                }
                if (told && !readSortNumber(h, sort, what)) {
                    return false;
                }
            }
            h.putNumber(OF_SORTS, sort + 1);
            return true;
        }

        private boolean readSortNumber(House h, int sort, int what) {
            advance();
            int v = numberHere();
            if (v < 0 || !House.mayBeOfSort(what, v)) {
                return false;
            }
            h.putSortNumber(sort, what, v);
            advance();
            return true;
        }

        private static String sortWord(int what) {
            switch (what) {
                case ITS_ROOM:
                    return "room";
                case ITS_COMES:
                    return "comes";
                case ITS_HOLD:
                    return "hold";
                case ITS_REFUSE:
                    return "refuse";
                default:
                    return "left";
            }
        }

        private int byteAt(int i) {
            return i >= 0 && i < size && i < bytes.length ? bytes[i] : -1;
        }

        private static int kindOf(int c) {
            if (c >= 'a' && c <= 'z') {
                return WORD;
            }
            if (c >= '0' && c <= '9') {
                return NUMBER;
            }
            return c == ';' ? SIGN : STRANGE;
        }

        /** Goes on to the token behind this one. */
        private void advance() {
            from = to;
            while (from < size && byteAt(from) == ' ') {
                from++;
            }
            to = from;
            if (from >= size) {
                kind = END;
                return;
            }
            kind = kindOf(byteAt(from));
            to++;
            if (kind == WORD || kind == NUMBER) {
                while (to < size && kindOf(byteAt(to)) == kind) {
                    to++;
                }
            }
        }

        private boolean isWord(String word) {
            if (kind != WORD || to - from != word.length()) {
                return false;
            }
            for (int i = 0; i < word.length(); i++) {
                if (byteAt(from + i) != word.charAt(i)) {
                    return false;
                }
            }
            return true;
        }

        /** The number that the token is; -1 if it is none, or too long for one. */
        private int numberHere() {
            if (kind != NUMBER || to - from > 2) {
                return -1;
            }
            int v = 0;
            for (int i = from; i < to; i++) {
                v = 10 * v + byteAt(i) - '0';
            }
            return v;
        }
    }

    /**
     * What is best in one house, and what rules cost there. It is worked out for a copy of the house, day by day as
     * it is asked for, and anew when the house is another than the copy.
     */
    private static final class Plan {
        private final House house = new House();
        private int days;
        private int sorts;
        private int states;
        private final int[] rooms = new int[MOST_STATES];
        private final int[] holds = new int[MOST_STATES];
        private final int[] leavings = new int[MOST_STATES];
        private final int[] fills = new int[MOST_STATES];
        private final int[] loads = new int[(MOST_DAYS + 1) * MOST_STATES];
        private final long[] costs = new long[(MOST_DAYS + 1) * MOST_STATES];
        // Costs once the load is in: hold, what comes, and the days behind this one.
        private final long[] afters = new long[(MOST_DAYS + 1) * MOST_STATES];
        private final long[] work = new long[MOST_STATES];
        private final long[] chances = new long[MOST_STATES];
        private int daysKnown = NONE;
        private int fullKnown = NONE;

        void turnTo(House h) {
            if (house.isLike(h)) {
                return;
            }
            house.become(h);
            days = h.days();
            sorts = h.sorts();
            states = h.states();
            daysKnown = NONE;
            fullKnown = NONE;
            for (int state = 0; state < states; state++) {
                put(rooms, state, house.sumOf(state, ITS_ROOM));
                put(holds, state, house.sumOf(state, ITS_HOLD));
                put(leavings, state, house.sumOf(state, ITS_LEFT));
                put(fills, state, house.fillFor(state));
            }
        }

        boolean hasSort(int sort) {
            return sort >= 0 && sort < sorts;
        }

        boolean hasState(int state) {
            return state >= 0 && state < states;
        }

        boolean hasPlace(int left, int state) {
            return left >= 0 && left <= days && hasState(state);
        }

        boolean hasDay(int left, int state) {
            return left >= 1 && hasPlace(left, state);
        }

        int roomOf(int state) {
            return at(rooms, state);
        }

        int fillOf(int state) {
            return at(fills, state);
        }

        private static int placeOf(int left, int state) {
            return left * MOST_STATES + state;
        }

        long leastCost(int left, int state) {
            workOut(left);
            return at(costs, placeOf(left, state));
        }

        int bestLoad(int left, int state) {
            workOut(left);
            return loadWorkedOut(left, state);
        }

        private int loadWorkedOut(int left, int state) {
            return at(loads, placeOf(left, state));
        }

        /** Comes ahead of all that is asked of the plan by a rule. */
        void getReadyFor(Rule rule) {
            if (rule != null && rule.kind == BEST_RULE) {
                workOut(days);
            }
        }

        /** The cost if a load is put in on this day (the ship not being full), and what is best from then on. */
        long costWith(int left, int state, int sent) {
            workOut(left);
            long full = house.number(OF_FULL);
            long kept = at(afters, placeOf(left, state));
            long gone = at(afters, placeOf(left, state - sent)) + (sent == 0 ? 0 : boxCost(left));
            return full * kept + (QUARTERS - full) * gone;
        }

        private void workOut(int left) {
            int last = Math.min(left, MOST_DAYS);
            for (int d = daysKnown + 1; d <= last; d++) {
                if (d == 0) {
                    startFromEnd();
                } else {
                    takeCosts(d - 1);
                    goBackToLoad(d);
                    keepWork(afters, d);
                    goBackBest(d, boxCost(d));
                }
                keepWork(costs, d);
                daysKnown = d;
            }
        }

        private void keepWork(long[] table, int left) {
            for (int state = 0; state < states; state++) {
                put(table, placeOf(left, state), at(work, state));
            }
        }

        /** The work row becomes the costs with no days left. */
        private void startFromEnd() {
            for (int state = 0; state < states; state++) {
                put(work, state, at(leavings, state));
            }
        }

        /** The work row becomes the least costs with so many days left. */
        private void takeCosts(int left) {
            for (int state = 0; state < states; state++) {
                put(work, state, at(costs, placeOf(left, state)));
            }
        }

        /** A coin's worth in the scale of so many days left, before the quarters of the ship are taken in. */
        private long unitOf(int left) {
            return timesOf(left * (1 + sorts) - 1);
        }

        private long boxCost(int left) {
            return house.number(OF_BOX) * unitOf(left);
        }

        /** From the work row with a day less left to that behind the load of this day: what comes, and hold. */
        private void goBackToLoad(int left) {
            long unit = scaleOf(left - 1, sorts);
            for (int sort = 0; sort < sorts; sort++) {
                int one = oneOf(sort);
                long comes = house.sortNumber(sort, ITS_COMES);
                long refused = house.sortNumber(sort, ITS_REFUSE) * unit;
                // Upwards, as a state needs the one with a parcel more as it was.
                for (int state = 0; state < states; state++) {
                    long stays = at(work, state);
                    long more = standing(state, sort) < MOST_STANDING ? at(work, state + one) : stays + refused;
                    put(work, state, comes * more + (QUARTERS - comes) * stays);
                }
                unit *= QUARTERS;
            }
            for (int state = 0; state < states; state++) {
                put(work, state, at(work, state) + at(holds, state) * unit);
            }
        }

        /** The work row from behind the load to ahead of it, by what is best. */
        private void goBackBest(int left, long box) {
            // Downwards, as a state needs those with fewer parcels as they were.
            for (int state = states - 1; state >= 0; state--) {
                int sent = pick(state, box, false);
                put(loads, placeOf(left, state), sent);
                mix(state, sent, box);
            }
        }

        private void goBackPromised(long box, boolean must) {
            for (int state = states - 1; state >= 0; state--) {
                mix(state, pick(state, box, must), box);
            }
        }

        /** The work row's state, taken from behind the load to ahead of it. */
        private void mix(int state, int sent, long box) {
            long full = house.number(OF_FULL);
            long kept = at(work, state);
            long gone = at(work, state - sent) + (sent == 0 ? 0 : box);
            put(work, state, full * kept + (QUARTERS - full) * gone);
        }

        /** The least load of least cost; if it must, one that is something where one can be. */
        private int pick(int state, long box, boolean must) {
            int room = house.number(OF_ROOM);
            int chosen = 0;
            long least = at(work, state);
            for (int c = 0; c <= standing(state, 2); c++) {
                for (int b = 0; b <= standing(state, 1); b++) {
                    for (int a = 0; a <= standing(state, 0); a++) {
                        int sent = a + 5 * b + 25 * c;
                        if (sent > 0 && at(rooms, sent) <= room) {
                            long price = at(work, state - sent) + box;
                            if (price < least || must && chosen == 0) {
                                chosen = sent;
                                least = price;
                            }
                        }
                    }
                }
            }
            return chosen;
        }

        int loadBy(Rule rule, int left, int state) {
            if (rule.kind == BEST_RULE) {
                return loadWorkedOut(left, state);
            }
            return rule.fills(left, state, roomOf(state)) ? fillOf(state) : 0;
        }

        long costBy(Rule rule, int left, int state) {
            if (rule.kind == BEST_RULE) {
                return at(costs, placeOf(left, state));
            }
            startFromEnd();
            for (int d = 1; d <= left; d++) {
                goBackToLoad(d);
                long box = boxCost(d);
                for (int s = states - 1; s >= 0; s--) {
                    mix(s, loadBy(rule, d, s), box);
                }
            }
            return at(work, state);
        }

        long costOfPromise(int left) {
            workOut(left - 1);
            takeCosts(left - 1);
            for (int d = left; d <= days; d++) {
                goBackToLoad(d);
                goBackPromised(boxCost(d), d == left);
            }
            return at(work, 0);
        }

        int bestFullRule() {
            if (fullKnown != NONE) {
                return fullKnown;
            }
            long least = 0;
            int chosen = NONE;
            for (int a = 0; a <= 99; a++) {
                // Else it says the same as the one that asks one less.
                if (chosen == NONE || isRoomOfSome(a - 1)) {
                    long price = costBy(new Rule(FULL_RULE, a, null), days, 0);
                    if (chosen == NONE || price < least) {
                        chosen = a;
                        least = price;
                    }
                }
            }
            fullKnown = chosen;
            return chosen;
        }

        private boolean isRoomOfSome(int room) {
            for (int state = 0; state < states; state++) {
                if (roomOf(state) == room) {
                    return true;
                }
            }
            return false;
        }

        int bestDayRule() {
            long least = 0;
            int chosen = NONE;
            for (int a = 1; a <= MOST_DAYS; a++) {
                long price = costBy(new Rule(DAY_RULE, a, null), days, 0);
                if (chosen == NONE || price < least) {
                    chosen = a;
                    least = price;
                }
            }
            return chosen;
        }

        /** The bar, if what is sent at all is sent from some room on; the least is one above what isn't sent. */
        int bar(int left) {
            workOut(left);
            int leastSent = leastRoomSent(left);
            if (leastSent == NONE || oddFrom(left, leastSent) != NONE) {
                return NONE;
            }
            int bar = 0;
            for (int state = 0; state < states; state++) {
                if (loadWorkedOut(left, state) == 0) {
                    bar = Math.max(bar, roomOf(state) + 1);
                }
            }
            return bar;
        }

        int oddState(int left) {
            workOut(left);
            int leastSent = leastRoomSent(left);
            return leastSent == NONE ? NONE : oddFrom(left, leastSent);
        }

        private int leastRoomSent(int left) {
            int least = NONE;
            for (int state = 0; state < states; state++) {
                if (loadWorkedOut(left, state) != 0 && (least == NONE || roomOf(state) < least)) {
                    least = roomOf(state);
                }
            }
            return least;
        }

        /** The least state of that room at least in which nothing is put in. */
        private int oddFrom(int left, int room) {
            for (int state = 0; state < states; state++) {
                if (roomOf(state) >= room && loadWorkedOut(left, state) == 0) {
                    return state;
                }
            }
            return NONE;
        }

        int judgeOf(Row row, int state) {
            long room = 0;
            for (int sort = 0; sort < sorts; sort++) {
                long n = row.valueAt(sort);
                if (n < 0 || n > standing(state, sort)) {
                    return 1;
                }
                room += n * house.sortNumber(sort, ITS_ROOM);
            }
            return room > house.number(OF_ROOM) ? 2 : 0;
        }

        long chanceBy(Rule rule, int left, int state) {
            spread(rule, left);
            return at(chances, state);
        }

        int statesBy(Rule rule, int left) {
            spread(rule, left);
            int n = 0;
            for (int state = 0; state < states; state++) {
                if (at(chances, state) != 0) {
                    n++;
                }
            }
            return n;
        }

        /** The chances row becomes that of the states with so many days left. */
        private void spread(Rule rule, int left) {
            startSpread();
            for (int d = days; d > left; d--) {
                spreadLoad(rule, d);
                spreadWhatComes();
            }
        }

        long heldBy(Rule rule, int sort) {
            long sum = 0;
            startSpread();
            for (int d = days; d > 0; d--) {
                spreadLoad(rule, d);
                long parcels = 0;
                for (int state = 0; state < states; state++) {
                    parcels += at(chances, state) * standing(state, sort);
                }
                sum += parcels * unitOf(d);
                spreadWhatComes();
            }
            return sum;
        }

        long boxesBy(Rule rule) {
            long sum = 0;
            startSpread();
            for (int d = days; d > 0; d--) {
                sum += spreadLoad(rule, d) * unitOf(d);
                spreadWhatComes();
            }
            return sum;
        }

        /** The chances row becomes that of nothing standing on the first day. */
        private void startSpread() {
            for (int state = 0; state < states; state++) {
                put(chances, state, state == 0 ? 1 : 0);
            }
        }

        /** The chances go from ahead of the load to behind it: the chance of a box, in their new scale. */
        private long spreadLoad(Rule rule, int left) {
            long full = house.number(OF_FULL);
            long sending = 0;
            // Upwards, as what is sent leaves a lesser state, which is behind the load already.
            for (int state = 0; state < states; state++) {
                long chance = at(chances, state);
                int sent = chance == 0 ? 0 : loadBy(rule, left, state);
                if (sent == 0) {
                    put(chances, state, chance * QUARTERS);
                } else {
                    long goes = chance * (QUARTERS - full);
                    put(chances, state, chance * full);
                    put(chances, state - sent, at(chances, state - sent) + goes);
                    sending += goes;
                }
            }
            return sending;
        }

        private void spreadWhatComes() {
            for (int sort = 0; sort < sorts; sort++) {
                int one = oneOf(sort);
                long comes = house.sortNumber(sort, ITS_COMES);
                // Downwards, as a parcel makes a greater state, which has its own share already.
                for (int state = states - 1; state >= 0; state--) {
                    long chance = at(chances, state);
                    if (standing(state, sort) < MOST_STANDING) {
                        put(chances, state + one, at(chances, state + one) + chance * comes);
                        put(chances, state, chance * (QUARTERS - comes));
                    } else {
                        put(chances, state, chance * QUARTERS);
                    }
                }
            }
        }
    }

    /** A week of a house by a rule, as far as it has come. */
    private static final class Week {
        private final House house = new House();
        // None while no week is under way.
        private Rule rule;
        private int left;
        private int state;
        private int coins;
        private int boxesSent;
        private int parcelsSent;
        private int parcelsRefused;

        void start(House h, Rule by) {
            house.become(h);
            rule = by;
            left = h.days();
            state = 0;
            coins = 0;
            boxesSent = 0;
            parcelsSent = 0;
            parcelsRefused = 0;
        }

        void become(Week other) {
            house.become(other.house);
            rule = other.rule;
            left = other.left;
            state = other.state;
            coins = other.coins;
            boxesSent = other.boxesSent;
            parcelsSent = other.parcelsSent;
            parcelsRefused = other.parcelsRefused;
        }

        boolean isUnderWay() {
            return rule != null;
        }

        int daysLeft() {
            return left;
        }

        int number(int what) {
            switch (what) {
                case 0:
                    return left;
                case 1:
                    return state;
                case 2:
                    return coins;
                case 3:
                    return boxesSent;
                case 4:
                    return parcelsSent;
                default:
                    return parcelsRefused;
            }
        }

        /** A day of it, by its house's plan: what it costs. */
        int passDay(World world, Plan plan) {
            int paid = 0;
            boolean full = world.draw(QUARTERS) < house.number(OF_FULL);
            if (!full && rule != null) {
                paid += send(plan.loadBy(rule, left, state));
            }
            paid += house.sumOf(state, ITS_HOLD);
            for (int sort = 0; sort < house.sorts(); sort++) {
                if (world.draw(QUARTERS) < house.sortNumber(sort, ITS_COMES)) {
                    paid += receive(sort);
                }
            }
            left--;
            if (left == 0) {
                paid += house.sumOf(state, ITS_LEFT);
            }
            coins += paid;
            return paid;
        }

        private int send(int sent) {
            if (sent == 0) {
                return 0;
            }
            state -= sent;
            boxesSent++;
            for (int sort = 0; sort < house.sorts(); sort++) {
                parcelsSent += standing(sent, sort);
            }
            return house.number(OF_BOX);
        }

        private int receive(int sort) {
            if (standing(state, sort) < MOST_STANDING) {
                state += oneOf(sort);
                return 0;
            }
            parcelsRefused++;
            return house.sortNumber(sort, ITS_REFUSE);
        }
    }

    /** All that an image keeps: the houses, the seed, the week under way. */
    private static final class World {
        private final House[] houses = new House[MOST_HOUSES];
        private int count;
        private int draws = 1;
        private final Week current = new Week();

        World() {
            for (int i = 0; i < houses.length; i++) {
                houses[i] = new House();
            }
        }

        void become(World other) {
            count = other.count;
            draws = other.draws;
            current.become(other.current);
            for (int i = 0; i < houses.length && i < other.houses.length; i++) {
                if (houses[i] != null && other.houses[i] != null) {
                    houses[i].become(other.houses[i]);
                }
            }
        }

        House houseAt(int i) {
            return i >= 0 && i < count && i < houses.length ? houses[i] : null;
        }

        boolean isFull() {
            return count >= houses.length;
        }

        /** A new house like that one: its number. */
        int add(House h) {
            int number = count;
            if (number >= 0 && number < houses.length && houses[number] != null) {
                houses[number].become(h);
                count++;
            }
            return number;
        }

        int changeSeed(int v) {
            int ahead = draws;
            draws = v;
            return ahead;
        }

        int draw(int n) {
            draws = draws * 1103515245 + 12345;
            return n > 0 ? (draws >>> 16) % n : 0;
        }
    }
}
