import java.util.ArrayList;
import java.util.HashMap;
import java.util.List;
import java.util.Map;

/** The document once more, told as plainly as can be: every quarter of every chance is gone through one by one. */
final class Model {
    /** What a load is by: the days left and the state. */
    interface Way {
        int load(House h, int left, int state);
    }

    static final class House {
        int days = 3;
        int box = 10;
        int room = 10;
        int full = 0;
        /** Of each sort: room, comes, hold, refuse, left. */
        List<int[]> sorts = new ArrayList<>();

        House twin() {
            House h = new House();
            h.days = days;
            h.box = box;
            h.room = room;
            h.full = full;
            for (int[] sort : sorts) {
                h.sorts.add(sort.clone());
            }
            return h;
        }

        String key() {
            StringBuilder b = new StringBuilder(box + " " + room + " " + full);
            for (int[] sort : sorts) {
                for (int v : sort) {
                    b.append(' ').append(v);
                }
                b.append(';');
            }
            return b.toString();
        }

        int states() {
            return (int) Math.round(Math.pow(5, sorts.size()));
        }

        int sum(int state, int what) {
            int sum = 0;
            for (int i = 0; i < sorts.size(); i++) {
                sum += standing(state, i) * sorts.get(i)[what];
            }
            return sum;
        }
    }

    static final int[] ONES = {1, 5, 25};
    /** Least costs and loads are kept by house, days and state: the loads of a house are asked for again and again. */
    private static final Map<String, long[][]> COSTS = new HashMap<>();

    private Model() {
    }

    static int standing(int state, int sort) {
        return state / ONES[sort] % 5;
    }

    static long scale(House h, int left) {
        long scale = 1;
        for (int i = 0; i < left * (1 + h.sorts.size()); i++) {
            scale *= 4;
        }
        return scale;
    }

    static boolean isLoad(House h, int load, int state) {
        for (int i = 0; i < h.sorts.size(); i++) {
            if (standing(load, i) > standing(state, i)) {
                return false;
            }
        }
        return h.sum(load, 0) <= h.room;
    }

    static int fill(House h, int state) {
        List<Integer> order = new ArrayList<>();
        for (int i = 0; i < h.sorts.size(); i++) {
            order.add(i);
        }
        order.sort((a, b) -> h.sorts.get(b)[2] - h.sorts.get(a)[2]);
        int load = 0;
        for (int sort : order) {
            for (int n = 0; n < standing(state, sort); n++) {
                if (isLoad(h, load + ONES[sort], state)) {
                    load += ONES[sort];
                }
            }
        }
        return load;
    }

    /** What follows when a load is put in, in all quarters of what comes, by the costs with a day less left. */
    static long follows(House h, int left, int state, int load, long[] then) {
        int rest = state - load;
        int n = h.sorts.size();
        int parts = (int) Math.round(Math.pow(4, n));
        long sum = 0;
        for (int part = 0; part < parts; part++) {
            long coins = (load != 0 ? h.box : 0) + h.sum(rest, 2);
            int next = rest;
            int quarters = part;
            for (int sort = 0; sort < n; sort++) {
                if (quarters % 4 < h.sorts.get(sort)[1]) {
                    if (standing(rest, sort) == 4) {
                        coins += h.sorts.get(sort)[3];
                    } else {
                        next += ONES[sort];
                    }
                }
                quarters /= 4;
            }
            sum += coins * scale(h, left - 1) + then[next];
        }
        return sum;
    }

    static long shipped(House h, int left, int state, int load, long[] then) {
        long sum = 0;
        for (int quarter = 0; quarter < 4; quarter++) {
            sum += follows(h, left, state, quarter < h.full ? 0 : load, then);
        }
        return sum;
    }

    static long[] end(House h) {
        long[] costs = new long[h.states()];
        for (int state = 0; state < costs.length; state++) {
            costs[state] = h.sum(state, 4);
        }
        return costs;
    }

    /** Of each state the least cost with so many days left, then the least load by which it is so. */
    static long[][] best(House h, int left) {
        String key = h.key() + left;
        long[][] known = COSTS.get(key);
        if (known == null) {
            known = left == 0 ? new long[][] {end(h), null} : bestDay(h, left, best(h, left - 1)[0], false);
            COSTS.put(key, known);
        }
        return known;
    }

    static long[][] bestDay(House h, int left, long[] then, boolean must) {
        long[][] best = new long[2][h.states()];
        for (int state = 0; state < h.states(); state++) {
            boolean found = false;
            for (int load = must ? 1 : 0; load < h.states(); load++) {
                if (isLoad(h, load, state)) {
                    long cost = shipped(h, left, state, load, then);
                    if (!found || cost < best[0][state]) {
                        best[0][state] = cost;
                        best[1][state] = load;
                    }
                    found = true;
                }
            }
            if (!found) {
                best[0][state] = shipped(h, left, state, 0, then);
            }
        }
        return best;
    }

    static Way bestWay() {
        return (h, left, state) -> (int) best(h, left)[1][state];
    }

    static long[] means(House h, int left, Way way) {
        long[] costs = end(h);
        for (int d = 1; d <= left; d++) {
            long[] next = new long[h.states()];
            for (int state = 0; state < next.length; state++) {
                next[state] = shipped(h, d, state, way.load(h, d, state), costs);
            }
            costs = next;
        }
        return costs;
    }

    static long promise(House h, int left) {
        long[] costs = best(h, left - 1)[0];
        for (int d = left; d <= h.days; d++) {
            costs = bestDay(h, d, costs, d == left)[0];
        }
        return costs[0] - best(h, h.days)[0][0];
    }

    /** Of each state the chance; sums become what is held of each sort, and the boxes, in the scale of all days. */
    static long[] chances(House h, int left, Way way, long[] sums) {
        int n = h.sorts.size();
        int parts = (int) Math.round(Math.pow(4, n));
        long[] chances = new long[h.states()];
        chances[0] = 1;
        for (int d = h.days; d > left; d--) {
            long[] next = new long[h.states()];
            long rest = scale(h, h.days) / scale(h, h.days - d) / 4;
            for (int state = 0; state < next.length; state++) {
                for (int quarter = 0; chances[state] != 0 && quarter < 4; quarter++) {
                    int load = quarter < h.full ? 0 : way.load(h, d, state);
                    sums[n] += load != 0 ? chances[state] * rest : 0;
                    for (int sort = 0; sort < n; sort++) {
                        sums[sort] += chances[state] * rest * standing(state - load, sort);
                    }
                    for (int part = 0; part < parts; part++) {
                        int to = state - load;
                        int quarters = part;
                        for (int sort = 0; sort < n; sort++) {
                            if (quarters % 4 < h.sorts.get(sort)[1] && standing(to, sort) < 4) {
                                to += ONES[sort];
                            }
                            quarters /= 4;
                        }
                        next[to] += chances[state];
                    }
                }
            }
            chances = next;
        }
        return chances;
    }

    static int bar(House h, int left) {
        long[] loads = best(h, left)[1];
        for (int r = 0; r <= 200; r++) {
            boolean just = true;
            boolean ever = false;
            for (int state = 0; state < loads.length; state++) {
                just &= loads[state] != 0 == h.sum(state, 0) >= r;
                ever |= loads[state] != 0;
            }
            if (just && ever) {
                return r;
            }
        }
        return -1;
    }

    static int odd(House h, int left) {
        long[] loads = best(h, left)[1];
        int r = Integer.MAX_VALUE;
        for (int state = 0; state < loads.length; state++) {
            if (loads[state] != 0) {
                r = Math.min(r, h.sum(state, 0));
            }
        }
        for (int state = 0; state < loads.length; state++) {
            if (loads[state] != 0 != h.sum(state, 0) >= r) {
                return state;
            }
        }
        return -1;
    }

    static House joined(House a, House b) {
        House h = a.twin();
        h.sorts.addAll(b.twin().sorts);
        return h;
    }

    static long saved(House a, House b) {
        House h = joined(a, b);
        long of = scale(h, h.days);
        long apart = best(a, a.days)[0][0] * (of / scale(a, a.days)) + best(b, b.days)[0][0] * (of / scale(b, b.days));
        return Math.max(0, apart - best(h, h.days)[0][0]);
    }
}
