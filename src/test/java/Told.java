import java.util.ArrayList;
import java.util.List;
import java.util.regex.Matcher;
import java.util.regex.Pattern;

/** A whole object as the document tells it, over the Model: what each call is due to answer. */
final class Told {
    static final class Rule implements Model.Way {
        final int kind;
        final int a;
        final long[] row;

        Rule(int kind, int a, long[] row) {
            this.kind = kind;
            this.a = a;
            this.row = row;
        }

        @Override
        public int load(Model.House h, int left, int state) {
            boolean fills = false;
            switch (kind) {
                case 1: fills = h.sum(state, 0) >= a; break;
                case 2: fills = left % a == 0; break;
                case 3: fills = h.sum(state, 0) >= a / 10 || left % (a % 10) == 0; break;
                case 4: return Model.bestWay().load(h, left, state);
                default: fills = state < row.length && row[state] != 0; break;
            }
            return fills ? Model.fill(h, state) : 0;
        }
    }

    static final class Week {
        Model.House house;
        Rule rule;
        int left;
        int state;
        int coins;
        int boxes;
        int sent;
        int refused;

        Week twin() {
            Week w = new Week();
            w.house = house;
            w.rule = rule;
            w.left = left;
            w.state = state;
            w.coins = coins;
            w.boxes = boxes;
            w.sent = sent;
            w.refused = refused;
            return w;
        }
    }

    List<Model.House> houses = new ArrayList<>();
    Week week;
    int seed = 1;
    List<Model.House> keptHouses;
    Week keptWeek;
    int keptSeed;
    StringBuilder tape = new StringBuilder();
    /** On each shelf: null, a long[] (its sort beside it), or a Rule. */
    Object[] shelves = new Object[8];
    int[] rowSorts = new int[8];
    int[] refused = new int[5];

    int refuse(int n) {
        refused[-2 - n]++;
        return n;
    }

    boolean shelf(int s) {
        return s >= 0 && s < 8;
    }

    Model.House at(int house) {
        return house >= 0 && house < houses.size() ? houses.get(house) : null;
    }

    boolean place(int house, int left, int state, int least) {
        Model.House h = at(house);
        return h != null && left >= least && left <= h.days && state >= 0 && state < h.states();
    }

    int noRule(int s) {
        return shelves[s] == null ? -4 : shelves[s] instanceof Rule ? 0 : -3;
    }

    int noRow(int s) {
        return shelves[s] == null ? -4 : shelves[s] instanceof Rule ? -3 : 0;
    }

    long kept(int sort, long v) {
        switch (sort) {
            case 0: return (byte) v;
            case 1: return (short) v;
            case 2: return (int) v;
            case 3: return v;
            default: return v == 0 ? 0 : 1;
        }
    }

    int row(int s, int sort, int n) {
        if (!shelf(s) || sort < 0 || sort > 4 || n < 0 || n > 125) {
            return refuse(-2);
        }
        shelves[s] = new long[n];
        rowSorts[s] = sort;
        return 1;
    }

    int set(int s, int i, long v) {
        if (!shelf(s)) {
            return refuse(-2);
        }
        if (noRow(s) != 0) {
            return refuse(noRow(s));
        }
        long[] row = (long[]) shelves[s];
        if (i < 0 || i >= row.length) {
            return refuse(-2);
        }
        row[i] = kept(rowSorts[s], v);
        return 1;
    }

    int copy(int p, int q, int i, int j, int n) {
        if (!shelf(p) || !shelf(q)) {
            return refuse(-2);
        }
        if (shelves[p] instanceof Rule || shelves[q] instanceof Rule) {
            return refuse(-3);
        }
        if (shelves[p] != null && shelves[q] != null && rowSorts[p] != rowSorts[q]) {
            return refuse(-3);
        }
        if (shelves[p] == null || shelves[q] == null) {
            return refuse(-4);
        }
        long[] from = ((long[]) shelves[p]).clone();
        long[] to = (long[]) shelves[q];
        if (i < 0 || j < 0 || n < 0 || (long) i + n > from.length || (long) j + n > to.length) {
            return refuse(-2);
        }
        for (int k = 0; k < n; k++) {
            to[j + k] = from[i + k];
        }
        return n;
    }

    long element(int s, int i) {
        if (!shelf(s) || shelves[s] == null || shelves[s] instanceof Rule) {
            return 0;
        }
        long[] row = (long[]) shelves[s];
        return i >= 0 && i < row.length ? row[i] : 0;
    }

    int holds(int s) {
        if (!shelf(s) || shelves[s] == null) {
            return -1;
        }
        return shelves[s] instanceof Rule ? 10 + ((Rule) shelves[s]).kind : rowSorts[s];
    }

    int rule(int s, int kind, int a) {
        boolean good = kind == 1 && a >= 0 && a <= 99 || kind == 2 && a >= 1 && a <= 6 || kind == 4
            || kind == 3 && a >= 0 && a < 1000 && a % 10 >= 1 && a % 10 <= 6 || kind == 5 && shelf(a);
        if (!shelf(s) || !good) {
            return refuse(-2);
        }
        if (kind == 5 && noRow(a) != 0) {
            return refuse(noRow(a));
        }
        shelves[s] = new Rule(kind, a, kind == 5 ? ((long[]) shelves[a]).clone() : null);
        return 1;
    }

    int says(int s, int kind) {
        if (!shelf(s) || kind < 0 || kind > 5) {
            return refuse(-2);
        }
        if (noRule(s) != 0) {
            return refuse(noRule(s));
        }
        Rule r = (Rule) shelves[s];
        if (kind == 0) {
            return 0;
        }
        if (kind == 1 && r.kind == 3) {
            return r.a / 10;
        }
        if (kind != r.kind) {
            return refuse(-3);
        }
        return kind == 3 ? r.a % 10 : kind == 4 ? 1 : kind == 5 ? r.row.length : r.a;
    }

    int feed(int v, int n) {
        if (n < 1 || n > 4) {
            return refuse(-2);
        }
        if (tape.length() + n > 160) {
            return refuse(-6);
        }
        for (int i = n - 1; i >= 0; i--) {
            tape.append((char) (v >> 8 * i & 255));
        }
        return tape.length();
    }

    int wipe() {
        int size = tape.length();
        tape.setLength(0);
        return size;
    }

    int house() {
        if (houses.size() == 6) {
            return refuse(-6);
        }
        Model.House h = new Model.House();
        int fault = read(tape.toString(), h);
        tape.setLength(0);
        if (fault >= 0) {
            refuse(-2);
            return -20 - fault;
        }
        houses.add(h);
        return houses.size() - 1;
    }

    private List<String> tokens;
    private List<Integer> places;
    private int next;

    /** The fault, or -1. */
    int read(String text, Model.House h) {
        tokens = new ArrayList<>();
        places = new ArrayList<>();
        Matcher m = Pattern.compile("[a-z]+|[0-9]+|;|[^ ]", Pattern.DOTALL).matcher(text);
        while (m.find()) {
            tokens.add(m.group());
            places.add(m.start());
        }
        tokens.add("");
        places.add(text.length());
        next = 0;
        return statements(h) ? -1 : places.get(next);
    }

    private boolean statements(Model.House h) {
        while (true) {
            if (!statement(h)) {
                return false;
            }
            if (tokens.get(next).isEmpty()) {
                return !h.sorts.isEmpty();
            }
            if (!word(";")) {
                return false;
            }
        }
    }

    private int number;

    private boolean word(String w) {
        if (tokens.get(next).equals(w)) {
            next++;
            return true;
        }
        return false;
    }

    private boolean number(int least, int most) {
        if (!tokens.get(next).matches("[0-9]{1,2}")) {
            return false;
        }
        number = Integer.parseInt(tokens.get(next));
        if (number < least || number > most) {
            return false;
        }
        next++;
        return true;
    }

    private boolean statement(Model.House h) {
        if (word("days")) {
            if (!number(1, 6)) {
                return false;
            }
            h.days = number;
            return true;
        }
        if (word("full")) {
            if (!number(0, 3)) {
                return false;
            }
            h.full = number;
            return true;
        }
        if (word("box")) {
            if (!number(0, 99)) {
                return false;
            }
            h.box = number;
            if (!word("room") || !number(1, 40)) {
                return false;
            }
            h.room = number;
            return true;
        }
        if (h.sorts.size() == 3 || !word("sort")) {
            return false;
        }
        int[] sort = new int[5];
        String[] words = {"room", "comes", "hold", "refuse", "left"};
        int[] least = {1, 0, 0, 0, 0};
        int[] most = {9, 4, 9, 99, 99};
        for (int what = 0; what < 5; what++) {
            if (word(words[what])) {
                if (!number(least[what], most[what])) {
                    return false;
                }
                sort[what] = number;
            } else if (what < 3) {
                return false;
            }
        }
        h.sorts.add(sort);
        return true;
    }

    int houseOf(int house, int what) {
        Model.House h = at(house);
        if (h == null || what < 0 || what > 4) {
            return refuse(-2);
        }
        return new int[] {h.days, h.box, h.room, h.full, h.sorts.size()}[what];
    }

    int sortOf(int house, int sort, int what) {
        Model.House h = at(house);
        if (h == null || sort < 0 || sort >= h.sorts.size() || what < 0 || what > 4) {
            return refuse(-2);
        }
        return h.sorts.get(sort)[what];
    }

    int alter(int house, int what, int v) {
        Model.House h = at(house);
        if (h == null || what < 0 || what > 2 || v < new int[] {0, 1, 0}[what] || v > new int[] {99, 40, 3}[what]) {
            return refuse(-2);
        }
        int was = houseOf(house, what + 1);
        h = h.twin();
        houses.set(house, h);
        switch (what) {
            case 0: h.box = v; break;
            case 1: h.room = v; break;
            default: h.full = v; break;
        }
        return was;
    }

    int change(int house, int sort, int what, int v) {
        Model.House h = at(house);
        if (h == null || sort < 0 || sort >= h.sorts.size() || what < 0 || what > 3 || v < 0
                || v > new int[] {4, 9, 99, 99}[what]) {
            return refuse(-2);
        }
        h = h.twin();
        houses.set(house, h);
        int was = h.sorts.get(sort)[what + 1];
        h.sorts.get(sort)[what + 1] = v;
        return was;
    }

    int of(int state, int sort) {
        return state < 0 || state > 124 || sort < 0 || sort > 2 ? refuse(-2) : Model.standing(state, sort);
    }

    int space(int house, int state) {
        return place(house, 0, state, 0) ? at(house).sum(state, 0) : refuse(-2);
    }

    long scale(int house, int left) {
        return place(house, left, 0, 0) ? Model.scale(at(house), left) : refuse(-2);
    }

    long cost(int house, int left, int state) {
        return place(house, left, state, 0) ? Model.best(at(house), left)[0][state] : refuse(-2);
    }

    int best(int house, int left, int state) {
        return place(house, left, state, 1) ? (int) Model.best(at(house), left)[1][state] : refuse(-2);
    }

    int fill(int house, int state) {
        return place(house, 0, state, 0) ? Model.fill(at(house), state) : refuse(-2);
    }

    int load(int house, int left, int state, int s) {
        if (!place(house, left, state, 1) || !shelf(s)) {
            return refuse(-2);
        }
        return noRule(s) != 0 ? refuse(noRule(s)) : ((Rule) shelves[s]).load(at(house), left, state);
    }

    long mean(int house, int left, int state, int s) {
        if (!place(house, left, state, 0) || !shelf(s)) {
            return refuse(-2);
        }
        return noRule(s) != 0 ? refuse(noRule(s)) : Model.means(at(house), left, (Rule) shelves[s])[state];
    }

    long lose(int house, int left, int state, int s) {
        if (!place(house, left, state, 0) || !shelf(s)) {
            return refuse(-2);
        }
        if (noRule(s) != 0) {
            return refuse(noRule(s));
        }
        return Model.means(at(house), left, (Rule) shelves[s])[state] - Model.best(at(house), left)[0][state];
    }

    int boy(int house) {
        if (at(house) == null) {
            return refuse(-2);
        }
        int first = -1;
        long least = Long.MAX_VALUE;
        for (int s = 0; s < 8; s++) {
            if (noRule(s) == 0) {
                long cost = Model.means(at(house), at(house).days, (Rule) shelves[s])[0];
                if (cost < least) {
                    least = cost;
                    first = s;
                }
            }
        }
        return first < 0 ? refuse(-5) : first;
    }

    long with(int house, int left, int state, int load) {
        Model.House h = at(house);
        return Model.shipped(h, left, state, load, Model.best(h, left - 1)[0]) - Model.best(h, left)[0][state];
    }

    long waits(int house, int left, int state) {
        return place(house, left, state, 1) ? with(house, left, state, 0) : refuse(-2);
    }

    long once(int house, int left, int state) {
        return place(house, left, state, 1) ? with(house, left, state, Model.fill(at(house), state)) : refuse(-2);
    }

    long dear(int house, int left, int state, int sort) {
        if (!place(house, left, state, 0) || sort < 0 || sort >= at(house).sorts.size()
                || Model.standing(state, sort) == 4) {
            return refuse(-2);
        }
        long[] costs = Model.best(at(house), left)[0];
        return costs[state + Model.ONES[sort]] - costs[state];
    }

    private long[] sums;

    private long[] chances(int house, int left, int s) {
        sums = new long[at(house).sorts.size() + 1];
        return Model.chances(at(house), left, (Rule) shelves[s], sums);
    }

    long chance(int house, int left, int state, int s) {
        if (!place(house, left, state, 0) || !shelf(s)) {
            return refuse(-2);
        }
        return noRule(s) != 0 ? refuse(noRule(s)) : chances(house, left, s)[state];
    }

    int reach(int house, int left, int s) {
        if (!place(house, left, 0, 0) || !shelf(s)) {
            return refuse(-2);
        }
        if (noRule(s) != 0) {
            return refuse(noRule(s));
        }
        int n = 0;
        for (long chance : chances(house, left, s)) {
            n += chance != 0 ? 1 : 0;
        }
        return n;
    }

    long held(int house, int sort, int s) {
        if (at(house) == null || sort < 0 || sort >= at(house).sorts.size() || !shelf(s)) {
            return refuse(-2);
        }
        if (noRule(s) != 0) {
            return refuse(noRule(s));
        }
        chances(house, 0, s);
        return sums[sort];
    }

    long boxes(int house, int s) {
        if (at(house) == null || !shelf(s)) {
            return refuse(-2);
        }
        if (noRule(s) != 0) {
            return refuse(noRule(s));
        }
        chances(house, 0, s);
        return sums[at(house).sorts.size()];
    }

    private int leastRule(int house, int kind, int from, int to) {
        int chosen = -1;
        long least = Long.MAX_VALUE;
        for (int a = from; a <= to; a++) {
            long cost = Model.means(at(house), at(house).days, new Rule(kind, a, null))[0];
            if (cost < least) {
                least = cost;
                chosen = a;
            }
        }
        return chosen;
    }

    int plain(int house) {
        return at(house) == null ? refuse(-2) : leastRule(house, 1, 0, 99);
    }

    int every(int house) {
        return at(house) == null ? refuse(-2) : leastRule(house, 2, 1, 6);
    }

    long promise(int house, int left) {
        return place(house, left, 0, 1) ? Model.promise(at(house), left) : refuse(-2);
    }

    int shape(int house, int left) {
        return place(house, left, 0, 1) ? Model.bar(at(house), left) : refuse(-2);
    }

    int odd(int house, int left) {
        return place(house, left, 0, 1) ? Model.odd(at(house), left) : refuse(-2);
    }

    int judge(int house, int state, int s) {
        if (!place(house, 0, state, 0) || !shelf(s)) {
            return refuse(-2);
        }
        if (noRow(s) != 0) {
            return refuse(noRow(s));
        }
        long[] row = (long[]) shelves[s];
        int n = at(house).sorts.size();
        if (row.length < n) {
            return refuse(-2);
        }
        int load = 0;
        for (int sort = 0; sort < n; sort++) {
            if (row[sort] < 0 || row[sort] > Model.standing(state, sort)) {
                return 1;
            }
            load += (int) row[sort] * Model.ONES[sort];
        }
        return Model.isLoad(at(house), load, state) ? 0 : 2;
    }

    private int noPair(int house, int other) {
        if (at(house) == null || at(other) == null || house == other) {
            return -2;
        }
        return at(house).days != at(other).days || at(house).sorts.size() + at(other).sorts.size() > 3 ? -5 : 0;
    }

    int join(int house, int other) {
        if (noPair(house, other) != 0) {
            return refuse(noPair(house, other));
        }
        if (houses.size() == 6) {
            return refuse(-6);
        }
        houses.add(Model.joined(at(house), at(other)));
        return houses.size() - 1;
    }

    long saved(int house, int other) {
        return noPair(house, other) != 0 ? refuse(noPair(house, other)) : Model.saved(at(house), at(other));
    }

    int seed(int v) {
        int was = seed;
        seed = v;
        return was;
    }

    int draw() {
        seed = seed * 1103515245 + 12345;
        return (seed >>> 16) % 4;
    }

    int begin(int house, int s) {
        if (at(house) == null || !shelf(s)) {
            return refuse(-2);
        }
        if (noRule(s) != 0) {
            return refuse(noRule(s));
        }
        week = newWeek(house, s);
        return week.left;
    }

    private Week newWeek(int house, int s) {
        Week w = new Week();
        w.house = at(house).twin();
        w.rule = (Rule) shelves[s];
        w.left = w.house.days;
        return w;
    }

    private int day(Week w) {
        Model.House h = w.house;
        int coins = 0;
        boolean full = draw() < h.full;
        int load = full ? 0 : w.rule.load(h, w.left, w.state);
        w.state -= load;
        if (load != 0) {
            coins += h.box;
            w.boxes++;
        }
        for (int sort = 0; sort < h.sorts.size(); sort++) {
            w.sent += Model.standing(load, sort);
            coins += Model.standing(w.state, sort) * h.sorts.get(sort)[2];
        }
        for (int sort = 0; sort < h.sorts.size(); sort++) {
            if (draw() < h.sorts.get(sort)[1]) {
                if (Model.standing(w.state, sort) == 4) {
                    w.refused++;
                    coins += h.sorts.get(sort)[3];
                } else {
                    w.state += Model.ONES[sort];
                }
            }
        }
        w.left--;
        coins += w.left == 0 ? h.sum(w.state, 4) : 0;
        w.coins += coins;
        return coins;
    }

    int step(int n) {
        if (n < 1 || n > 6) {
            return refuse(-2);
        }
        if (week == null || week.left == 0) {
            return refuse(-5);
        }
        int coins = 0;
        for (int i = 0; i < n && week.left > 0; i++) {
            coins += day(week);
        }
        return coins;
    }

    int week(int what) {
        if (what < 0 || what > 5) {
            return refuse(-2);
        }
        if (week == null) {
            return refuse(-5);
        }
        return new int[] {week.left, week.state, week.coins, week.boxes, week.sent, week.refused}[what];
    }

    int weeks(int house, int s, int n) {
        if (at(house) == null || !shelf(s) || n < 1 || n > 50) {
            return refuse(-2);
        }
        if (noRule(s) != 0) {
            return refuse(noRule(s));
        }
        int coins = 0;
        for (int i = 0; i < n; i++) {
            Week w = newWeek(house, s);
            while (w.left > 0) {
                coins += day(w);
            }
        }
        return coins;
    }

    int image() {
        keptHouses = new ArrayList<>(houses);
        keptSeed = seed;
        keptWeek = week == null ? null : week.twin();
        return 1;
    }

    int back() {
        if (keptHouses == null) {
            return refuse(-5);
        }
        houses = new ArrayList<>(keptHouses);
        seed = keptSeed;
        week = keptWeek == null ? null : keptWeek.twin();
        return 1;
    }

    int status(int what) {
        if (what >= 12 && what <= 16) {
            return refused[what - 12];
        }
        int held = 0;
        for (Object o : shelves) {
            held += o != null ? 1 : 0;
        }
        return what >= 0 && what <= 3 ? new int[] {houses.size(), tape.length(), seed, held}[what] : -1;
    }
}
